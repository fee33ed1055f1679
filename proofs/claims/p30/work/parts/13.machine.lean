def fX4_open (Ω : XO) (i1 : Nat) (x2 : Int32) : Option (XO) := (wl (uR Ω 403 0 i1) (fun Ω_1 => (wl (uR Ω_1 404 0 i1) (fun Ω_3 => (if x2 = 0 then (wl (uI Ω_3 405 0 0 (100 : Int32)) (fun Ω_5 => (some Ω_5))) else (wl (uI Ω_3 405 0 0 (150 : Int32)) (fun Ω_6 => (some Ω_6))))))))
set_option maxRecDepth 20000 in
theorem tX4_open {G : XG} (hok : XK G) {i1 : Nat} {x2 : Int32} {Ω : XO} (hd0 : dm G 4 0) (hd1 : dm G 0 i1)   {r : XO} (hf : fX4_open Ω i1 x2 = some r) : XM G yX4_open cX4_open 3 none (RM 0 0) [.ref (ad G 4 0), .ref (ad G 0 i1), .int x2] Ω (.inl none) (r) := by
  refine x_start (lv := [(0, .ref (ad G 4 0)), (1, .ref (ad G 0 i1)), (2, .int x2)]) (own := RX4) hok (by decide +kernel) rfl (Nat.le_of_ble_eq_true rfl) rfl (fun B C => ?_)
  refine x_aload_n (pc2 := 1) C dX4_open_0 0 rfl rfl rfl ?_
  refine x_aload_n (pc2 := 2) C dX4_open_1 1 rfl rfl rfl ?_
  refine x_putM (pc2 := 5) (f := 403) C (by assumption) kf_4_26 dX4_open_2 rfl rfl rfl rfl rfl rfl ?_
  obtain ⟨Ω_1, hw_1⟩ : ∃ z, z = uR Ω 403 0 i1 := ⟨_, rfl⟩
  refine x_om hw_1 ?_
  refine x_aload_n (pc2 := 6) C dX4_open_5 0 rfl rfl rfl ?_
  refine x_aload_n (pc2 := 7) C dX4_open_6 1 rfl rfl rfl ?_
  refine x_getR (f := 1) (k2 := 6) (pc2 := 10) C (by assumption) kf_4_29 dX4_open_7 rfl rfl rfl (rti_i rfl) rfl (fun qd_2 => ?_)
  refine x_putM (pc2 := 13) (f := 404) C (by assumption) kf_4_33 dX4_open_10 rfl rfl rfl rfl rfl rfl ?_
  obtain ⟨Ω_3, hw_3⟩ : ∃ z, z = uR Ω_1 404 0 i1 := ⟨_, rfl⟩
  refine x_om hw_3 ?_
  refine x_aload_n (pc2 := 14) C dX4_open_13 0 rfl rfl rfl ?_
  refine x_iload_n (pc2 := 15) C dX4_open_14 2 rfl rfl rfl ?_
  refine x_if_eq (tgt := 24) (pc2 := 18) C dX4_open_15 (by decide) rfl (fun qc_4 => ?_) (fun qc_4 => ?_)
  · refine x_bipush (pc2 := 26) (v := 100) C dX4_open_24 rfl rfl ?_
    refine x_putI (pc2 := 29) (f := 405) C (by assumption) kf_4_39 dX4_open_26 rfl rfl rfl rfl rfl ?_
    obtain ⟨Ω_5, hw_5⟩ : ∃ z, z = uI Ω_3 405 0 0 (100 : Int32) := ⟨_, rfl⟩
    refine x_om hw_5 ?_
    rw [fX4_open, wl_eq hw_1, wl_eq hw_3, if_pos qc_4, wl_eq hw_5] at hf
    cases hf
    exact x_vreturn C dX4_open_29 rfl (Nat.le_of_ble_eq_true rfl) (Nat.le_of_ble_eq_true rfl) rfl rfl
  · refine x_sipush (pc2 := 21) (v := 150) C dX4_open_18 rfl rfl ?_
    refine x_goto (tgt := 26) C dX4_open_21 (by decide) ?_
    refine x_putI (pc2 := 29) (f := 405) C (by assumption) kf_4_39 dX4_open_26 rfl rfl rfl rfl rfl ?_
    obtain ⟨Ω_6, hw_6⟩ : ∃ z, z = uI Ω_3 405 0 0 (150 : Int32) := ⟨_, rfl⟩
    refine x_om hw_6 ?_
    rw [fX4_open, wl_eq hw_1, wl_eq hw_3, if_neg qc_4, wl_eq hw_6] at hf
    cases hf
    exact x_vreturn C dX4_open_29 rfl (Nat.le_of_ble_eq_true rfl) (Nat.le_of_ble_eq_true rfl) rfl rfl
def fX4_write (Ω : XO) (b : Nat) (sg : Nat) (x1 : Int32) (x2 : Int32) : Option (XO) := (if xR Ω 404 0 = sg then (if (sAt Ω 2014 sg x1) = 0 then (if xR Ω 404 0 = sg then (wl (sPut Ω 2014 sg x1 x2) (fun Ω_6 => (some Ω_6))) else none) else (if x2 = 0 then (wl (uI Ω 406 0 0 ((xI Ω 406 0 0) + (40 : Int32))) (fun Ω_11 => (if xR Ω_11 404 0 = sg then (wl (sPut Ω_11 2014 sg x1 x2) (fun Ω_14 => (some Ω_14))) else none))) else (if xR Ω 404 0 = sg then (wl (sPut Ω 2014 sg x1 x2) (fun Ω_10 => (some Ω_10))) else none))) else none)
set_option maxRecDepth 20000 in
theorem tX4_write {G : XG} (hok : XK G) {b : Nat} {sg : Nat} {x1 : Int32} {x2 : Int32} {Ω : XO} (hd0 : dm G 4 0) (db : dm G 0 b) (ds : dm G 6 sg)  {r : XO} (hf : fX4_write Ω b sg x1 x2 = some r) : XM G yX4_write cX4_write 3 none (RM 1 0) [.ref (ad G 4 0), .int x1, .int x2] Ω (.inl none) (r) := by
  refine x_start (lv := [(0, .ref (ad G 4 0)), (1, .int x1), (2, .int x2)]) (own := RX4) hok (by decide +kernel) rfl (Nat.le_of_ble_eq_true rfl) rfl (fun B C => ?_)
  refine x_aload_n (pc2 := 1) C dX4_write_0 0 rfl rfl rfl ?_
  rcases (Decidable.em (xR Ω 404 0 = sg)).symm with qg_1 | qg_1
  · exact absurd hf (by rw [fX4_write, if_neg qg_1]; exact nofun)
  refine x_getM (pc2 := 4) (f := 404) (k2 := 6) (v9 := sg) C (by assumption) kf_4_33 dX4_write_1 rfl rfl rfl qg_1 rfl ?_
  refine x_getR (f := 603) (k2 := 2014) (pc2 := 7) C (by assumption) kf_4_239 dX4_write_4 rfl rfl rfl (rti_i rfl) rfl (fun qd_2 => ?_)
  refine x_iload_n (pc2 := 8) C dX4_write_7 1 rfl rfl rfl ?_
  refine x_ret (rest := []) (st2 := [_]) (pc2 := 11) (cu2 := 0) (su2 := 0) (x_cSN C kmX10_at ke_4_129 (tX10_at hok (by assumption) rfl (by decide)) rfl rfl (Nat.le_of_ble_eq_true rfl) ⟨Nat.le_of_ble_eq_true rfl, Nat.le_of_ble_eq_true rfl⟩ ⟨Nat.le_of_ble_eq_true rfl, Nat.le_of_ble_eq_true rfl⟩ dX4_write_8) rfl rfl rfl rfl ?_
  refine x_if_eq (tgt := 29) (pc2 := 14) C dX4_write_11 (by decide) rfl (fun qc_3 => ?_) (fun qc_3 => ?_)
  · refine x_aload_n (pc2 := 30) C dX4_write_29 0 rfl rfl rfl ?_
    rcases (Decidable.em (xR Ω 404 0 = sg)).symm with qg_4 | qg_4
    · exact absurd hf (by rw [fX4_write, if_pos qg_1, if_pos qc_3, if_neg qg_4]; exact nofun)
    refine x_getM (pc2 := 33) (f := 404) (k2 := 6) (v9 := sg) C (by assumption) kf_4_33 dX4_write_30 rfl rfl rfl qg_4 rfl ?_
    refine x_getR (f := 603) (k2 := 2014) (pc2 := 36) C (by assumption) kf_4_239 dX4_write_33 rfl rfl rfl (rti_i rfl) rfl (fun qd_5 => ?_)
    refine x_iload_n (pc2 := 37) C dX4_write_36 1 rfl rfl rfl ?_
    refine x_iload_n (pc2 := 38) C dX4_write_37 2 rfl rfl rfl ?_
    refine x_ret (rest := []) (st2 := []) (pc2 := 41) (cu2 := 0) (su2 := 0) (x_cSN C kmX10_put ke_4_153 (tX10_put hok (by assumption) rfl (by decide)) rfl rfl (Nat.le_of_ble_eq_true rfl) ⟨Nat.le_of_ble_eq_true rfl, Nat.le_of_ble_eq_true rfl⟩ ⟨Nat.le_of_ble_eq_true rfl, Nat.le_of_ble_eq_true rfl⟩ dX4_write_38) rfl rfl rfl rfl ?_
    obtain ⟨Ω_6, hw_6⟩ : ∃ z, z = sPut Ω 2014 sg x1 x2 := ⟨_, rfl⟩
    refine x_om hw_6 ?_
    rw [fX4_write, if_pos qg_1, if_pos qc_3, if_pos qg_4, wl_eq hw_6] at hf
    cases hf
    exact x_vreturn C dX4_write_41 rfl (Nat.le_of_ble_eq_true rfl) (Nat.le_of_ble_eq_true rfl) rfl rfl
  · refine x_iload_n (pc2 := 15) C dX4_write_14 2 rfl rfl rfl ?_
    refine x_if_ne (tgt := 29) (pc2 := 18) C dX4_write_15 (by decide) rfl (fun qc_7 => ?_) (fun qc_7 => ?_)
    · refine x_aload_n (pc2 := 30) C dX4_write_29 0 rfl rfl rfl ?_
      rcases (Decidable.em (xR Ω 404 0 = sg)).symm with qg_8 | qg_8
      · exact absurd hf (by rw [fX4_write, if_pos qg_1, if_neg qc_3, if_neg qc_7, if_neg qg_8]; exact nofun)
      refine x_getM (pc2 := 33) (f := 404) (k2 := 6) (v9 := sg) C (by assumption) kf_4_33 dX4_write_30 rfl rfl rfl qg_8 rfl ?_
      refine x_getR (f := 603) (k2 := 2014) (pc2 := 36) C (by assumption) kf_4_239 dX4_write_33 rfl rfl rfl (rti_i rfl) rfl (fun qd_9 => ?_)
      refine x_iload_n (pc2 := 37) C dX4_write_36 1 rfl rfl rfl ?_
      refine x_iload_n (pc2 := 38) C dX4_write_37 2 rfl rfl rfl ?_
      refine x_ret (rest := []) (st2 := []) (pc2 := 41) (cu2 := 0) (su2 := 0) (x_cSN C kmX10_put ke_4_153 (tX10_put hok (by assumption) rfl (by decide)) rfl rfl (Nat.le_of_ble_eq_true rfl) ⟨Nat.le_of_ble_eq_true rfl, Nat.le_of_ble_eq_true rfl⟩ ⟨Nat.le_of_ble_eq_true rfl, Nat.le_of_ble_eq_true rfl⟩ dX4_write_38) rfl rfl rfl rfl ?_
      obtain ⟨Ω_10, hw_10⟩ : ∃ z, z = sPut Ω 2014 sg x1 x2 := ⟨_, rfl⟩
      refine x_om hw_10 ?_
      rw [fX4_write, if_pos qg_1, if_neg qc_3, if_neg qc_7, if_pos qg_8, wl_eq hw_10] at hf
      cases hf
      exact x_vreturn C dX4_write_41 rfl (Nat.le_of_ble_eq_true rfl) (Nat.le_of_ble_eq_true rfl) rfl rfl
    · refine x_aload_n (pc2 := 19) C dX4_write_18 0 rfl rfl rfl ?_
      refine x_dup (pc2 := 20) C dX4_write_19 rfl rfl ?_
      refine x_getI (pc2 := 23) (f := 406) C (by assumption) kf_4_67 dX4_write_20 rfl rfl rfl ?_
      refine x_bipush (pc2 := 25) (v := 40) C dX4_write_23 rfl rfl ?_
      refine x_iadd (pc2 := 26) C dX4_write_25 rfl ?_
      refine x_putI (pc2 := 29) (f := 406) C (by assumption) kf_4_67 dX4_write_26 rfl rfl rfl rfl rfl ?_
      obtain ⟨Ω_11, hw_11⟩ : ∃ z, z = uI Ω 406 0 0 ((xI Ω 406 0 0) + (40 : Int32)) := ⟨_, rfl⟩
      refine x_om hw_11 ?_
      refine x_aload_n (pc2 := 30) C dX4_write_29 0 rfl rfl rfl ?_
      rcases (Decidable.em (xR Ω_11 404 0 = sg)).symm with qg_12 | qg_12
      · exact absurd hf (by rw [fX4_write, if_pos qg_1, if_neg qc_3, if_pos qc_7, wl_eq hw_11, if_neg qg_12]; exact nofun)
      refine x_getM (pc2 := 33) (f := 404) (k2 := 6) (v9 := sg) C (by assumption) kf_4_33 dX4_write_30 rfl rfl rfl qg_12 rfl ?_
      refine x_getR (f := 603) (k2 := 2014) (pc2 := 36) C (by assumption) kf_4_239 dX4_write_33 rfl rfl rfl (rti_i rfl) rfl (fun qd_13 => ?_)
      refine x_iload_n (pc2 := 37) C dX4_write_36 1 rfl rfl rfl ?_
      refine x_iload_n (pc2 := 38) C dX4_write_37 2 rfl rfl rfl ?_
      refine x_ret (rest := []) (st2 := []) (pc2 := 41) (cu2 := 0) (su2 := 0) (x_cSN C kmX10_put ke_4_153 (tX10_put hok (by assumption) rfl (by decide)) rfl rfl (Nat.le_of_ble_eq_true rfl) ⟨Nat.le_of_ble_eq_true rfl, Nat.le_of_ble_eq_true rfl⟩ ⟨Nat.le_of_ble_eq_true rfl, Nat.le_of_ble_eq_true rfl⟩ dX4_write_38) rfl rfl rfl rfl ?_
      obtain ⟨Ω_14, hw_14⟩ : ∃ z, z = sPut Ω_11 2014 sg x1 x2 := ⟨_, rfl⟩
      refine x_om hw_14 ?_
      rw [fX4_write, if_pos qg_1, if_neg qc_3, if_pos qc_7, wl_eq hw_11, if_pos qg_12, wl_eq hw_14] at hf
      cases hf
      exact x_vreturn C dX4_write_41 rfl (Nat.le_of_ble_eq_true rfl) (Nat.le_of_ble_eq_true rfl) rfl rfl
def fX4_undo (Ω : XO) (b : Nat) (sg : Nat) (i1 : Nat) : Option (XO) := (if xR Ω 404 0 = sg then (wl (fX6_copyFrom Ω sg (49 + i1)) (fun Ω_3 => (if xR Ω_3 403 0 = b then (wl (uI Ω_3 10 b 0 (xI Ω_3 312 i1 0)) (fun Ω_5 => (wl (uI Ω_5 406 0 0 (xI Ω_5 313 i1 0)) (fun Ω_6 => (some Ω_6))))) else none))) else none)
set_option maxRecDepth 20000 in
theorem tX4_undo {G : XG} (hok : XK G) {b : Nat} {sg : Nat} {i1 : Nat} {Ω : XO} (hd0 : dm G 4 0) (hd1 : dm G 3 i1) (db : dm G 0 b) (ds : dm G 6 sg)  {r : XO} (hf : fX4_undo Ω b sg i1 = some r) : XM G yX4_undo cX4_undo 2 none (RM 2 0) [.ref (ad G 4 0), .ref (ad G 3 i1)] Ω (.inl none) (r) := by
  refine x_start (lv := [(0, .ref (ad G 4 0)), (1, .ref (ad G 3 i1))]) (own := RX4) hok (by decide +kernel) rfl (Nat.le_of_ble_eq_true rfl) rfl (fun B C => ?_)
  refine x_aload_n (pc2 := 1) C dX4_undo_0 0 rfl rfl rfl ?_
  rcases (Decidable.em (xR Ω 404 0 = sg)).symm with qg_1 | qg_1
  · exact absurd hf (by rw [fX4_undo, if_neg qg_1]; exact nofun)
  refine x_getM (pc2 := 4) (f := 404) (k2 := 6) (v9 := sg) C (by assumption) kf_4_33 dX4_undo_1 rfl rfl rfl qg_1 rfl ?_
  refine x_aload_n (pc2 := 5) C dX4_undo_4 1 rfl rfl rfl ?_
  refine x_getR (f := 311) (k2 := 6) (pc2 := 8) C (by assumption) kf_4_176 dX4_undo_5 rfl rfl rfl (rti_f _) rfl (fun qd_2 => ?_)
  refine x_ret (rest := []) (st2 := []) (pc2 := 11) (cu2 := 0) (su2 := 0) (x_cV C (by assumption) (Nat.le_of_ble_eq_true rfl) kmX6_copyFrom rfl kk_4_179 (tX6_copyFrom hok (by assumption) (by assumption)) rfl rfl (Nat.le_of_ble_eq_true rfl) ⟨Nat.le_of_ble_eq_true rfl, Nat.le_of_ble_eq_true rfl⟩ ⟨Nat.le_of_ble_eq_true rfl, Nat.le_of_ble_eq_true rfl⟩ dX4_undo_8) rfl rfl rfl rfl ?_
  obtain ⟨Ω_3, hw_3⟩ : ∃ z, z = fX6_copyFrom Ω sg (49 + i1) := ⟨_, rfl⟩
  refine x_om hw_3 ?_
  refine x_aload_n (pc2 := 12) C dX4_undo_11 0 rfl rfl rfl ?_
  rcases (Decidable.em (xR Ω_3 403 0 = b)).symm with qg_4 | qg_4
  · exact absurd hf (by rw [fX4_undo, if_pos qg_1, wl_eq hw_3, if_neg qg_4]; exact nofun)
  refine x_getM (pc2 := 15) (f := 403) (k2 := 0) (v9 := b) C (by assumption) kf_4_26 dX4_undo_12 rfl rfl rfl qg_4 rfl ?_
  refine x_aload_n (pc2 := 16) C dX4_undo_15 1 rfl rfl rfl ?_
  refine x_getI (pc2 := 19) (f := 312) C (by assumption) kf_4_183 dX4_undo_16 rfl rfl rfl ?_
  refine x_putI (pc2 := 22) (f := 10) C (by assumption) kf_4_161 dX4_undo_19 rfl rfl rfl rfl rfl ?_
  obtain ⟨Ω_5, hw_5⟩ : ∃ z, z = uI Ω_3 10 b 0 (xI Ω_3 312 i1 0) := ⟨_, rfl⟩
  refine x_om hw_5 ?_
  refine x_aload_n (pc2 := 23) C dX4_undo_22 0 rfl rfl rfl ?_
  refine x_aload_n (pc2 := 24) C dX4_undo_23 1 rfl rfl rfl ?_
  refine x_getI (pc2 := 27) (f := 313) C (by assumption) kf_4_186 dX4_undo_24 rfl rfl rfl ?_
  refine x_putI (pc2 := 30) (f := 406) C (by assumption) kf_4_67 dX4_undo_27 rfl rfl rfl rfl rfl ?_
  obtain ⟨Ω_6, hw_6⟩ : ∃ z, z = uI Ω_5 406 0 0 (xI Ω_5 313 i1 0) := ⟨_, rfl⟩
  refine x_om hw_6 ?_
  rw [fX4_undo, if_pos qg_1, wl_eq hw_3, if_pos qg_4, wl_eq hw_5, wl_eq hw_6] at hf
  cases hf
  exact x_vreturn C dX4_undo_30 rfl (Nat.le_of_ble_eq_true rfl) (Nat.le_of_ble_eq_true rfl) rfl rfl
def fX4_found (Ω : XO) (b : Nat) (sg : Nat) (x1 : Int32) (x2 : Int32) (x3 : Int32) (x4 : Int32) : Option (Int32 × XO) := (if xR Ω 404 0 = sg then (if (sAt Ω 2013 sg ((6 : Int32) + ((((5 : Int32) * x1) + ((3 : Int32) * x2)) - (((5 : Int32) * x1) + ((3 : Int32) * x2)) / (9 : Int32) * (9 : Int32)))) = 0 then (if xR Ω 404 0 = sg then (if (sAt Ω 2012 sg ((6 : Int32) + ((((5 : Int32) * x1) + ((3 : Int32) * x2)) - (((5 : Int32) * x1) + ((3 : Int32) * x2)) / (9 : Int32) * (9 : Int32)))) = 0 then (if xR Ω 404 0 = sg then (wl (sPut Ω 2013 sg ((6 : Int32) + ((((5 : Int32) * x1) + ((3 : Int32) * x2)) - (((5 : Int32) * x1) + ((3 : Int32) * x2)) / (9 : Int32) * (9 : Int32))) (x3 + (1 : Int32))) (fun Ω_9 => (if xR Ω_9 404 0 = sg then (wl (sPut Ω_9 2012 sg ((6 : Int32) + ((((5 : Int32) * x1) + ((3 : Int32) * x2)) - (((5 : Int32) * x1) + ((3 : Int32) * x2)) / (9 : Int32) * (9 : Int32))) (1 : Int32)) (fun Ω_12 => (if xR Ω_12 404 0 = sg then (wl (fX6_move Ω_12 sg x1 ((6 : Int32) + ((((5 : Int32) * x1) + ((3 : Int32) * x2)) - (((5 : Int32) * x1) + ((3 : Int32) * x2)) / (9 : Int32) * (9 : Int32))) x4) (fun Ω_14 => (some ((6 : Int32) + ((((5 : Int32) * x1) + ((3 : Int32) * x2)) - (((5 : Int32) * x1) + ((3 : Int32) * x2)) / (9 : Int32) * (9 : Int32)), Ω_14)))) else none))) else none))) else none) else (some ((0 : Int32), Ω))) else none) else (some ((0 : Int32), Ω))) else none)
set_option maxRecDepth 20000 in
theorem tX4_found {G : XG} (hok : XK G) {b : Nat} {sg : Nat} {x1 : Int32} {x2 : Int32} {x3 : Int32} {x4 : Int32} {Ω : XO} (hd0 : dm G 4 0) (db : dm G 0 b) (ds : dm G 6 sg)  {r : Int32 × XO} (hf : fX4_found Ω b sg x1 x2 x3 x4 = some r) : XM G yX4_found cX4_found 6 ((some FieldType.int)) (RM 1 0) [.ref (ad G 4 0), .int x1, .int x2, .int x3, .int x4] Ω (.inl (some (.int (r.1)))) r.2 := by
  refine x_start (lv := [(0, .ref (ad G 4 0)), (1, .int x1), (2, .int x2), (3, .int x3), (4, .int x4)]) (own := RX4) hok (by decide +kernel) rfl (Nat.le_of_ble_eq_true rfl) rfl (fun B C => ?_)
  refine x_bipush (pc2 := 2) (v := 6) C dX4_found_0 rfl rfl ?_
  refine x_iconst (pc2 := 3) (v := 5) C dX4_found_2 rfl rfl ?_
  refine x_iload_n (pc2 := 4) C dX4_found_3 1 rfl rfl rfl ?_
  refine x_imul (pc2 := 5) C dX4_found_4 rfl ?_
  refine x_iconst (pc2 := 6) (v := 3) C dX4_found_5 rfl rfl ?_
  refine x_iload_n (pc2 := 7) C dX4_found_6 2 rfl rfl rfl ?_
  refine x_imul (pc2 := 8) C dX4_found_7 rfl ?_
  refine x_iadd (pc2 := 9) C dX4_found_8 rfl ?_
  refine x_bipush (pc2 := 11) (v := 9) C dX4_found_9 rfl rfl ?_
  refine x_irem (pc2 := 12) C dX4_found_11 (by decide +kernel) rfl ?_
  refine x_iadd (pc2 := 13) C dX4_found_12 rfl ?_
  refine x_istore (pc2 := 15) (lv2 := [(5, _), (0, _), (1, _), (2, _), (3, _), (4, _)]) C dX4_found_13 (by decide) rfl rfl ?_
  refine x_aload_n (pc2 := 16) C dX4_found_15 1 rfl rfl rfl ?_
  rcases (Decidable.em (xR Ω 404 0 = sg)).symm with qg_1 | qg_1
  · exact absurd hf (by rw [fX4_found, if_neg qg_1]; exact nofun)
  refine x_getM (pc2 := 19) (f := 404) (k2 := 6) (v9 := sg) C (by assumption) kf_4_33 dX4_found_16 rfl rfl rfl qg_1 rfl ?_
  refine x_getR (f := 602) (k2 := 2013) (pc2 := 22) C (by assumption) kf_4_147 dX4_found_19 rfl rfl rfl (rti_i rfl) rfl (fun qd_2 => ?_)
  refine x_iload (pc2 := 24) C dX4_found_22 0 rfl rfl ?_
  refine x_ret (rest := []) (st2 := [_]) (pc2 := 27) (cu2 := 0) (su2 := 0) (x_cSN C kmX10_at ke_4_129 (tX10_at hok (by assumption) rfl (by decide)) rfl rfl (Nat.le_of_ble_eq_true rfl) ⟨Nat.le_of_ble_eq_true rfl, Nat.le_of_ble_eq_true rfl⟩ ⟨Nat.le_of_ble_eq_true rfl, Nat.le_of_ble_eq_true rfl⟩ dX4_found_24) rfl rfl rfl rfl ?_
  refine x_if_ne (tgt := 45) (pc2 := 30) C dX4_found_27 (by decide) rfl (fun qc_3 => ?_) (fun qc_3 => ?_)
  · refine x_iconst (pc2 := 46) (v := 0) C dX4_found_45 rfl rfl ?_
    rw [fX4_found, if_pos qg_1, if_neg qc_3] at hf
    cases hf
    exact x_ireturn C dX4_found_46 rfl (Nat.le_of_ble_eq_true rfl) (Nat.le_of_ble_eq_true rfl) rfl rfl
  · refine x_aload_n (pc2 := 31) C dX4_found_30 1 rfl rfl rfl ?_
    rcases (Decidable.em (xR Ω 404 0 = sg)).symm with qg_4 | qg_4
    · exact absurd hf (by rw [fX4_found, if_pos qg_1, if_pos qc_3, if_neg qg_4]; exact nofun)
    refine x_getM (pc2 := 34) (f := 404) (k2 := 6) (v9 := sg) C (by assumption) kf_4_33 dX4_found_31 rfl rfl rfl qg_4 rfl ?_
    refine x_getR (f := 601) (k2 := 2012) (pc2 := 37) C (by assumption) kf_4_150 dX4_found_34 rfl rfl rfl (rti_i rfl) rfl (fun qd_5 => ?_)
    refine x_iload (pc2 := 39) C dX4_found_37 0 rfl rfl ?_
    refine x_ret (rest := []) (st2 := [_]) (pc2 := 42) (cu2 := 0) (su2 := 0) (x_cSN C kmX10_at ke_4_129 (tX10_at hok (by assumption) rfl (by decide)) rfl rfl (Nat.le_of_ble_eq_true rfl) ⟨Nat.le_of_ble_eq_true rfl, Nat.le_of_ble_eq_true rfl⟩ ⟨Nat.le_of_ble_eq_true rfl, Nat.le_of_ble_eq_true rfl⟩ dX4_found_39) rfl rfl rfl rfl ?_
    refine x_if_eq (tgt := 47) (pc2 := 45) C dX4_found_42 (by decide) rfl (fun qc_6 => ?_) (fun qc_6 => ?_)
    · refine x_aload_n (pc2 := 48) C dX4_found_47 1 rfl rfl rfl ?_
      rcases (Decidable.em (xR Ω 404 0 = sg)).symm with qg_7 | qg_7
      · exact absurd hf (by rw [fX4_found, if_pos qg_1, if_pos qc_3, if_pos qg_4, if_pos qc_6, if_neg qg_7]; exact nofun)
      refine x_getM (pc2 := 51) (f := 404) (k2 := 6) (v9 := sg) C (by assumption) kf_4_33 dX4_found_48 rfl rfl rfl qg_7 rfl ?_
      refine x_getR (f := 602) (k2 := 2013) (pc2 := 54) C (by assumption) kf_4_147 dX4_found_51 rfl rfl rfl (rti_i rfl) rfl (fun qd_8 => ?_)
      refine x_iload (pc2 := 56) C dX4_found_54 0 rfl rfl ?_
      refine x_iload_n (pc2 := 57) C dX4_found_56 4 rfl rfl rfl ?_
      refine x_iconst (pc2 := 58) (v := 1) C dX4_found_57 rfl rfl ?_
      refine x_iadd (pc2 := 59) C dX4_found_58 rfl ?_
      refine x_ret (rest := []) (st2 := []) (pc2 := 62) (cu2 := 0) (su2 := 0) (x_cSN C kmX10_put ke_4_153 (tX10_put hok (by assumption) rfl (by decide)) rfl rfl (Nat.le_of_ble_eq_true rfl) ⟨Nat.le_of_ble_eq_true rfl, Nat.le_of_ble_eq_true rfl⟩ ⟨Nat.le_of_ble_eq_true rfl, Nat.le_of_ble_eq_true rfl⟩ dX4_found_59) rfl rfl rfl rfl ?_
      obtain ⟨Ω_9, hw_9⟩ : ∃ z, z = sPut Ω 2013 sg ((6 : Int32) + ((((5 : Int32) * x1) + ((3 : Int32) * x2)) - (((5 : Int32) * x1) + ((3 : Int32) * x2)) / (9 : Int32) * (9 : Int32))) (x3 + (1 : Int32)) := ⟨_, rfl⟩
      refine x_om hw_9 ?_
      refine x_aload_n (pc2 := 63) C dX4_found_62 1 rfl rfl rfl ?_
      rcases (Decidable.em (xR Ω_9 404 0 = sg)).symm with qg_10 | qg_10
      · exact absurd hf (by rw [fX4_found, if_pos qg_1, if_pos qc_3, if_pos qg_4, if_pos qc_6, if_pos qg_7, wl_eq hw_9, if_neg qg_10]; exact nofun)
      refine x_getM (pc2 := 66) (f := 404) (k2 := 6) (v9 := sg) C (by assumption) kf_4_33 dX4_found_63 rfl rfl rfl qg_10 rfl ?_
      refine x_getR (f := 601) (k2 := 2012) (pc2 := 69) C (by assumption) kf_4_150 dX4_found_66 rfl rfl rfl (rti_i rfl) rfl (fun qd_11 => ?_)
      refine x_iload (pc2 := 71) C dX4_found_69 0 rfl rfl ?_
      refine x_iconst (pc2 := 72) (v := 1) C dX4_found_71 rfl rfl ?_
      refine x_ret (rest := []) (st2 := []) (pc2 := 75) (cu2 := 0) (su2 := 0) (x_cSN C kmX10_put ke_4_153 (tX10_put hok (by assumption) rfl (by decide)) rfl rfl (Nat.le_of_ble_eq_true rfl) ⟨Nat.le_of_ble_eq_true rfl, Nat.le_of_ble_eq_true rfl⟩ ⟨Nat.le_of_ble_eq_true rfl, Nat.le_of_ble_eq_true rfl⟩ dX4_found_72) rfl rfl rfl rfl ?_
      obtain ⟨Ω_12, hw_12⟩ : ∃ z, z = sPut Ω_9 2012 sg ((6 : Int32) + ((((5 : Int32) * x1) + ((3 : Int32) * x2)) - (((5 : Int32) * x1) + ((3 : Int32) * x2)) / (9 : Int32) * (9 : Int32))) (1 : Int32) := ⟨_, rfl⟩
      refine x_om hw_12 ?_
      refine x_aload_n (pc2 := 76) C dX4_found_75 1 rfl rfl rfl ?_
      rcases (Decidable.em (xR Ω_12 404 0 = sg)).symm with qg_13 | qg_13
      · exact absurd hf (by rw [fX4_found, if_pos qg_1, if_pos qc_3, if_pos qg_4, if_pos qc_6, if_pos qg_7, wl_eq hw_9, if_pos qg_10, wl_eq hw_12, if_neg qg_13]; exact nofun)
      refine x_getM (pc2 := 79) (f := 404) (k2 := 6) (v9 := sg) C (by assumption) kf_4_33 dX4_found_76 rfl rfl rfl qg_13 rfl ?_
      refine x_iload_n (pc2 := 80) C dX4_found_79 2 rfl rfl rfl ?_
      refine x_iload (pc2 := 82) C dX4_found_80 0 rfl rfl ?_
      refine x_iload (pc2 := 84) C dX4_found_82 5 rfl rfl ?_
      refine x_ret (rest := []) (st2 := []) (pc2 := 87) (cu2 := 0) (su2 := 0) (x_cV C (by assumption) (Nat.le_of_ble_eq_true rfl) kmX6_move rfl kk_4_139 (tX6_move hok (by assumption)) rfl rfl (Nat.le_of_ble_eq_true rfl) ⟨Nat.le_of_ble_eq_true rfl, Nat.le_of_ble_eq_true rfl⟩ ⟨Nat.le_of_ble_eq_true rfl, Nat.le_of_ble_eq_true rfl⟩ dX4_found_84) rfl rfl rfl rfl ?_
      obtain ⟨Ω_14, hw_14⟩ : ∃ z, z = fX6_move Ω_12 sg x1 ((6 : Int32) + ((((5 : Int32) * x1) + ((3 : Int32) * x2)) - (((5 : Int32) * x1) + ((3 : Int32) * x2)) / (9 : Int32) * (9 : Int32))) x4 := ⟨_, rfl⟩
      refine x_om hw_14 ?_
      refine x_iload (pc2 := 89) C dX4_found_87 0 rfl rfl ?_
      rw [fX4_found, if_pos qg_1, if_pos qc_3, if_pos qg_4, if_pos qc_6, if_pos qg_7, wl_eq hw_9, if_pos qg_10, wl_eq hw_12, if_pos qg_13, wl_eq hw_14] at hf
      cases hf
      exact x_ireturn C dX4_found_89 rfl (Nat.le_of_ble_eq_true rfl) (Nat.le_of_ble_eq_true rfl) rfl rfl
    · refine x_iconst (pc2 := 46) (v := 0) C dX4_found_45 rfl rfl ?_
      rw [fX4_found, if_pos qg_1, if_pos qc_3, if_pos qg_4, if_neg qc_6] at hf
      cases hf
      exact x_ireturn C dX4_found_46 rfl (Nat.le_of_ble_eq_true rfl) (Nat.le_of_ble_eq_true rfl) rfl rfl
def fX4_payOut (Ω : XO) (b : Nat) (sg : Nat) (i1 : Nat) : Option (Int32 × XO) := (if xR Ω 404 0 = sg then (if (fX6_isPaid Ω sg (xI Ω 709 i1 0)) = 0 then (if xR Ω 404 0 = sg then (if (xI Ω 710 i1 0) ≤ (sAt Ω 2011 sg (15 : Int32)) then (if xR Ω 404 0 = sg then (wl (fX6_move Ω sg (15 : Int32) (xI Ω 711 i1 0) (xI Ω 710 i1 0)) (fun Ω_7 => (if xR Ω_7 404 0 = sg then (wl (uL Ω_7 605 sg 0 ((xL Ω_7 605 sg 0) ||| ((1 : Int64) <<< ((xI Ω_7 709 i1 0).toInt64 &&& 63)))) (fun Ω_9 => (some ((1 : Int32), Ω_9)))) else none))) else none) else (some ((0 : Int32), Ω))) else none) else (some ((0 : Int32), Ω))) else none)
set_option maxRecDepth 20000 in
theorem tX4_payOut {G : XG} (hok : XK G) {b : Nat} {sg : Nat} {i1 : Nat} {Ω : XO} (hd0 : dm G 4 0) (hd1 : dm G 7 i1) (db : dm G 0 b) (ds : dm G 6 sg)  {r : Int32 × XO} (hf : fX4_payOut Ω b sg i1 = some r) : XM G yX4_payOut cX4_payOut 2 ((some FieldType.boolean)) (RM 1 0) [.ref (ad G 4 0), .ref (ad G 7 i1)] Ω (.inl (some (.int (r.1)))) r.2 := by
  refine x_start (lv := [(0, .ref (ad G 4 0)), (1, .ref (ad G 7 i1))]) (own := RX4) hok (by decide +kernel) rfl (Nat.le_of_ble_eq_true rfl) rfl (fun B C => ?_)
  refine x_aload_n (pc2 := 1) C dX4_payOut_0 0 rfl rfl rfl ?_
  rcases (Decidable.em (xR Ω 404 0 = sg)).symm with qg_1 | qg_1
  · exact absurd hf (by rw [fX4_payOut, if_neg qg_1]; exact nofun)
  refine x_getM (pc2 := 4) (f := 404) (k2 := 6) (v9 := sg) C (by assumption) kf_4_33 dX4_payOut_1 rfl rfl rfl qg_1 rfl ?_
  refine x_aload_n (pc2 := 5) C dX4_payOut_4 1 rfl rfl rfl ?_
  refine x_getI (pc2 := 8) (f := 709) C (by assumption) kf_4_71 dX4_payOut_5 rfl rfl rfl ?_
  refine x_ret (rest := []) (st2 := [_]) (pc2 := 11) (cu2 := 0) (su2 := 0) (x_cV C (by assumption) (Nat.le_of_ble_eq_true rfl) kmX6_isPaid rfl kk_4_121 (tX6_isPaid hok (by assumption)) rfl rfl (Nat.le_of_ble_eq_true rfl) ⟨Nat.le_of_ble_eq_true rfl, Nat.le_of_ble_eq_true rfl⟩ ⟨Nat.le_of_ble_eq_true rfl, Nat.le_of_ble_eq_true rfl⟩ dX4_payOut_8) rfl rfl rfl rfl ?_
  refine x_if_ne (tgt := 33) (pc2 := 14) C dX4_payOut_11 (by decide) rfl (fun qc_2 => ?_) (fun qc_2 => ?_)
  · refine x_iconst (pc2 := 34) (v := 0) C dX4_payOut_33 rfl rfl ?_
    rw [fX4_payOut, if_pos qg_1, if_neg qc_2] at hf
    cases hf
    exact x_zreturn C dX4_payOut_34 rfl (by first | exact Or.inl rfl | exact Or.inr rfl) (Nat.le_of_ble_eq_true rfl) (Nat.le_of_ble_eq_true rfl) rfl rfl
  · refine x_aload_n (pc2 := 15) C dX4_payOut_14 0 rfl rfl rfl ?_
    rcases (Decidable.em (xR Ω 404 0 = sg)).symm with qg_3 | qg_3
    · exact absurd hf (by rw [fX4_payOut, if_pos qg_1, if_pos qc_2, if_neg qg_3]; exact nofun)
    refine x_getM (pc2 := 18) (f := 404) (k2 := 6) (v9 := sg) C (by assumption) kf_4_33 dX4_payOut_15 rfl rfl rfl qg_3 rfl ?_
    refine x_getR (f := 600) (k2 := 2011) (pc2 := 21) C (by assumption) kf_4_125 dX4_payOut_18 rfl rfl rfl (rti_i rfl) rfl (fun qd_4 => ?_)
    refine x_bipush (pc2 := 23) (v := 15) C dX4_payOut_21 rfl rfl ?_
    refine x_ret (rest := []) (st2 := [_]) (pc2 := 26) (cu2 := 0) (su2 := 0) (x_cSN C kmX10_at ke_4_129 (tX10_at hok (by assumption) rfl (by decide)) rfl rfl (Nat.le_of_ble_eq_true rfl) ⟨Nat.le_of_ble_eq_true rfl, Nat.le_of_ble_eq_true rfl⟩ ⟨Nat.le_of_ble_eq_true rfl, Nat.le_of_ble_eq_true rfl⟩ dX4_payOut_23) rfl rfl rfl rfl ?_
    refine x_aload_n (pc2 := 27) C dX4_payOut_26 1 rfl rfl rfl ?_
    refine x_getI (pc2 := 30) (f := 710) C (by assumption) kf_4_133 dX4_payOut_27 rfl rfl rfl ?_
    refine x_icmp_ge (tgt := 35) (pc2 := 33) C dX4_payOut_30 (by decide) rfl (fun qc_5 => ?_) (fun qc_5 => ?_)
    · refine x_aload_n (pc2 := 36) C dX4_payOut_35 0 rfl rfl rfl ?_
      rcases (Decidable.em (xR Ω 404 0 = sg)).symm with qg_6 | qg_6
      · exact absurd hf (by rw [fX4_payOut, if_pos qg_1, if_pos qc_2, if_pos qg_3, if_pos qc_5, if_neg qg_6]; exact nofun)
      refine x_getM (pc2 := 39) (f := 404) (k2 := 6) (v9 := sg) C (by assumption) kf_4_33 dX4_payOut_36 rfl rfl rfl qg_6 rfl ?_
      refine x_bipush (pc2 := 41) (v := 15) C dX4_payOut_39 rfl rfl ?_
      refine x_aload_n (pc2 := 42) C dX4_payOut_41 1 rfl rfl rfl ?_
      refine x_getI (pc2 := 45) (f := 711) C (by assumption) kf_4_136 dX4_payOut_42 rfl rfl rfl ?_
      refine x_aload_n (pc2 := 46) C dX4_payOut_45 1 rfl rfl rfl ?_
      refine x_getI (pc2 := 49) (f := 710) C (by assumption) kf_4_133 dX4_payOut_46 rfl rfl rfl ?_
      refine x_ret (rest := []) (st2 := []) (pc2 := 52) (cu2 := 0) (su2 := 0) (x_cV C (by assumption) (Nat.le_of_ble_eq_true rfl) kmX6_move rfl kk_4_139 (tX6_move hok (by assumption)) rfl rfl (Nat.le_of_ble_eq_true rfl) ⟨Nat.le_of_ble_eq_true rfl, Nat.le_of_ble_eq_true rfl⟩ ⟨Nat.le_of_ble_eq_true rfl, Nat.le_of_ble_eq_true rfl⟩ dX4_payOut_49) rfl rfl rfl rfl ?_
      obtain ⟨Ω_7, hw_7⟩ : ∃ z, z = fX6_move Ω sg (15 : Int32) (xI Ω 711 i1 0) (xI Ω 710 i1 0) := ⟨_, rfl⟩
      refine x_om hw_7 ?_
      refine x_aload_n (pc2 := 53) C dX4_payOut_52 0 rfl rfl rfl ?_
      rcases (Decidable.em (xR Ω_7 404 0 = sg)).symm with qg_8 | qg_8
      · exact absurd hf (by rw [fX4_payOut, if_pos qg_1, if_pos qc_2, if_pos qg_3, if_pos qc_5, if_pos qg_6, wl_eq hw_7, if_neg qg_8]; exact nofun)
      refine x_getM (pc2 := 56) (f := 404) (k2 := 6) (v9 := sg) C (by assumption) kf_4_33 dX4_payOut_53 rfl rfl rfl qg_8 rfl ?_
      refine x_dup (pc2 := 57) C dX4_payOut_56 rfl rfl ?_
      refine x_getL (pc2 := 60) (f := 605) C (by assumption) kf_4_143 dX4_payOut_57 rfl rfl rfl ?_
      refine x_lconst (pc2 := 61) (v := 1) C dX4_payOut_60 rfl rfl ?_
      refine x_aload_n (pc2 := 62) C dX4_payOut_61 1 rfl rfl rfl ?_
      refine x_getI (pc2 := 65) (f := 709) C (by assumption) kf_4_71 dX4_payOut_62 rfl rfl rfl ?_
      refine x_lshl (pc2 := 66) C dX4_payOut_65 rfl ?_
      refine x_lor (pc2 := 67) C dX4_payOut_66 rfl ?_
      refine x_putL (pc2 := 70) (f := 605) C (by assumption) kf_4_143 dX4_payOut_67 rfl rfl rfl rfl rfl ?_
      obtain ⟨Ω_9, hw_9⟩ : ∃ z, z = uL Ω_7 605 sg 0 ((xL Ω_7 605 sg 0) ||| ((1 : Int64) <<< ((xI Ω_7 709 i1 0).toInt64 &&& 63))) := ⟨_, rfl⟩
      refine x_om hw_9 ?_
      refine x_iconst (pc2 := 71) (v := 1) C dX4_payOut_70 rfl rfl ?_
      rw [fX4_payOut, if_pos qg_1, if_pos qc_2, if_pos qg_3, if_pos qc_5, if_pos qg_6, wl_eq hw_7, if_pos qg_8, wl_eq hw_9] at hf
      cases hf
      exact x_zreturn C dX4_payOut_71 rfl (by first | exact Or.inl rfl | exact Or.inr rfl) (Nat.le_of_ble_eq_true rfl) (Nat.le_of_ble_eq_true rfl) rfl rfl
    · refine x_iconst (pc2 := 34) (v := 0) C dX4_payOut_33 rfl rfl ?_
      rw [fX4_payOut, if_pos qg_1, if_pos qc_2, if_pos qg_3, if_neg qc_5] at hf
      cases hf
      exact x_zreturn C dX4_payOut_34 rfl (by first | exact Or.inl rfl | exact Or.inr rfl) (Nat.le_of_ble_eq_true rfl) (Nat.le_of_ble_eq_true rfl) rfl rfl
def fX4_extraGas (Ω : XO) (b : Nat) (sg : Nat) (i1 : Nat) (x2 : Int32) (x3 : Int32) : Option (Int32) := (if x2 = (17 : Int32) then (some (fX3_growthTo Ω i1 x3)) else (if x2 = (18 : Int32) then (some (fX3_growthTo Ω i1 x3)) else (if x2 = (10 : Int32) then (if xR Ω 404 0 = sg then (if (sAt Ω 2014 sg (((xI Ω 304 i1 0) * (4 : Int32)) + x3)) = 0 then (if (fX3_top Ω i1) = 0 then (some (0 : Int32)) else (some ((xI Ω 405 0 0) - (30 : Int32)))) else (some (0 : Int32))) else none) else (some (0 : Int32)))))
set_option maxRecDepth 20000 in
theorem tX4_extraGas {G : XG} (hok : XK G) {b : Nat} {sg : Nat} {i1 : Nat} {x2 : Int32} {x3 : Int32} {Ω : XO} (hd0 : dm G 4 0) (hd1 : dm G 3 i1) (db : dm G 0 b) (ds : dm G 6 sg)  {r : Int32} (hf : fX4_extraGas Ω b sg i1 x2 x3 = some r) : XM G yX4_extraGas cX4_extraGas 5 ((some FieldType.int)) (RM 2 0) [.ref (ad G 4 0), .ref (ad G 3 i1), .int x2, .int x3] Ω (.inl (some (.int (r)))) Ω := by
  refine x_start (lv := [(0, .ref (ad G 4 0)), (1, .ref (ad G 3 i1)), (2, .int x2), (3, .int x3)]) (own := RX4) hok (by decide +kernel) rfl (Nat.le_of_ble_eq_true rfl) rfl (fun B C => ?_)
  refine x_iload_n (pc2 := 1) C dX4_extraGas_0 2 rfl rfl rfl ?_
  refine x_bipush (pc2 := 3) (v := 17) C dX4_extraGas_1 rfl rfl ?_
  refine x_icmp_eq (tgt := 12) (pc2 := 6) C dX4_extraGas_3 (by decide) rfl (fun qc_1 => ?_) (fun qc_1 => ?_)
  · refine x_aload_n (pc2 := 13) C dX4_extraGas_12 1 rfl rfl rfl ?_
    refine x_iload_n (pc2 := 14) C dX4_extraGas_13 3 rfl rfl rfl ?_
    refine x_ret (rest := []) (st2 := [_]) (pc2 := 17) (cu2 := 0) (su2 := 0) (x_cV C (by assumption) (Nat.le_of_ble_eq_true rfl) kmX3_growthTo rfl kk_4_236 (tX3_growthTo hok (by assumption)) rfl rfl (Nat.le_of_ble_eq_true rfl) ⟨Nat.le_of_ble_eq_true rfl, Nat.le_of_ble_eq_true rfl⟩ ⟨Nat.le_of_ble_eq_true rfl, Nat.le_of_ble_eq_true rfl⟩ dX4_extraGas_14) rfl rfl rfl rfl ?_
    rw [fX4_extraGas, if_pos qc_1] at hf
    cases hf
    exact x_ireturn C dX4_extraGas_17 rfl (Nat.le_of_ble_eq_true rfl) (Nat.le_of_ble_eq_true rfl) rfl rfl
  · refine x_iload_n (pc2 := 7) C dX4_extraGas_6 2 rfl rfl rfl ?_
    refine x_bipush (pc2 := 9) (v := 18) C dX4_extraGas_7 rfl rfl ?_
    refine x_icmp_ne (tgt := 18) (pc2 := 12) C dX4_extraGas_9 (by decide) rfl (fun qc_2 => ?_) (fun qc_2 => ?_)
    · refine x_iload_n (pc2 := 19) C dX4_extraGas_18 2 rfl rfl rfl ?_
      refine x_bipush (pc2 := 21) (v := 10) C dX4_extraGas_19 rfl rfl ?_
      refine x_icmp_ne (tgt := 56) (pc2 := 24) C dX4_extraGas_21 (by decide) rfl (fun qc_3 => ?_) (fun qc_3 => ?_)
      · refine x_iconst (pc2 := 57) (v := 0) C dX4_extraGas_56 rfl rfl ?_
        refine x_istore (pc2 := 59) (lv2 := [(4, _), (0, _), (1, _), (2, _), (3, _)]) C dX4_extraGas_57 (by decide) rfl rfl ?_
        refine x_iload (pc2 := 61) C dX4_extraGas_59 0 rfl rfl ?_
        refine x_if_eq (tgt := 74) (pc2 := 64) C dX4_extraGas_61 (by decide) rfl (fun qc_4 => ?_) (fun qc_4 => absurd qc_4 (by decide +kernel))
        refine x_iconst (pc2 := 75) (v := 0) C dX4_extraGas_74 rfl rfl ?_
        rw [fX4_extraGas, if_neg qc_1, if_neg qc_2, if_neg qc_3] at hf
        cases hf
        exact x_ireturn C dX4_extraGas_75 rfl (Nat.le_of_ble_eq_true rfl) (Nat.le_of_ble_eq_true rfl) rfl rfl
      · refine x_aload_n (pc2 := 25) C dX4_extraGas_24 0 rfl rfl rfl ?_
        rcases (Decidable.em (xR Ω 404 0 = sg)).symm with qg_5 | qg_5
        · exact absurd hf (by rw [fX4_extraGas, if_neg qc_1, if_neg qc_2, if_pos qc_3, if_neg qg_5]; exact nofun)
        refine x_getM (pc2 := 28) (f := 404) (k2 := 6) (v9 := sg) C (by assumption) kf_4_33 dX4_extraGas_25 rfl rfl rfl qg_5 rfl ?_
        refine x_getR (f := 603) (k2 := 2014) (pc2 := 31) C (by assumption) kf_4_239 dX4_extraGas_28 rfl rfl rfl (rti_i rfl) rfl (fun qd_6 => ?_)
        refine x_aload_n (pc2 := 32) C dX4_extraGas_31 1 rfl rfl rfl ?_
        refine x_getI (pc2 := 35) (f := 304) C (by assumption) kf_4_242 dX4_extraGas_32 rfl rfl rfl ?_
        refine x_iconst (pc2 := 36) (v := 4) C dX4_extraGas_35 rfl rfl ?_
        refine x_imul (pc2 := 37) C dX4_extraGas_36 rfl ?_
        refine x_iload_n (pc2 := 38) C dX4_extraGas_37 3 rfl rfl rfl ?_
        refine x_iadd (pc2 := 39) C dX4_extraGas_38 rfl ?_
        refine x_ret (rest := []) (st2 := [_]) (pc2 := 42) (cu2 := 0) (su2 := 0) (x_cSN C kmX10_at ke_4_129 (tX10_at hok (by assumption) rfl (by decide)) rfl rfl (Nat.le_of_ble_eq_true rfl) ⟨Nat.le_of_ble_eq_true rfl, Nat.le_of_ble_eq_true rfl⟩ ⟨Nat.le_of_ble_eq_true rfl, Nat.le_of_ble_eq_true rfl⟩ dX4_extraGas_39) rfl rfl rfl rfl ?_
        refine x_if_ne (tgt := 56) (pc2 := 45) C dX4_extraGas_42 (by decide) rfl (fun qc_7 => ?_) (fun qc_7 => ?_)
        · refine x_iconst (pc2 := 57) (v := 0) C dX4_extraGas_56 rfl rfl ?_
          refine x_istore (pc2 := 59) (lv2 := [(4, _), (0, _), (1, _), (2, _), (3, _)]) C dX4_extraGas_57 (by decide) rfl rfl ?_
          refine x_iload (pc2 := 61) C dX4_extraGas_59 0 rfl rfl ?_
          refine x_if_eq (tgt := 74) (pc2 := 64) C dX4_extraGas_61 (by decide) rfl (fun qc_8 => ?_) (fun qc_8 => absurd qc_8 (by decide +kernel))
          refine x_iconst (pc2 := 75) (v := 0) C dX4_extraGas_74 rfl rfl ?_
          rw [fX4_extraGas, if_neg qc_1, if_neg qc_2, if_pos qc_3, if_pos qg_5, if_neg qc_7] at hf
          cases hf
          exact x_ireturn C dX4_extraGas_75 rfl (Nat.le_of_ble_eq_true rfl) (Nat.le_of_ble_eq_true rfl) rfl rfl
        · refine x_aload_n (pc2 := 46) C dX4_extraGas_45 1 rfl rfl rfl ?_
          refine x_ret (rest := []) (st2 := [_]) (pc2 := 49) (cu2 := 0) (su2 := 0) (x_cV C (by assumption) (Nat.le_of_ble_eq_true rfl) kmX3_top rfl kk_4_245 (tX3_top hok (by assumption)) rfl rfl (Nat.le_of_ble_eq_true rfl) ⟨Nat.le_of_ble_eq_true rfl, Nat.le_of_ble_eq_true rfl⟩ ⟨Nat.le_of_ble_eq_true rfl, Nat.le_of_ble_eq_true rfl⟩ dX4_extraGas_46) rfl rfl rfl rfl ?_
          refine x_if_eq (tgt := 56) (pc2 := 52) C dX4_extraGas_49 (by decide) rfl (fun qc_9 => ?_) (fun qc_9 => ?_)
          · refine x_iconst (pc2 := 57) (v := 0) C dX4_extraGas_56 rfl rfl ?_
            refine x_istore (pc2 := 59) (lv2 := [(4, _), (0, _), (1, _), (2, _), (3, _)]) C dX4_extraGas_57 (by decide) rfl rfl ?_
            refine x_iload (pc2 := 61) C dX4_extraGas_59 0 rfl rfl ?_
            refine x_if_eq (tgt := 74) (pc2 := 64) C dX4_extraGas_61 (by decide) rfl (fun qc_10 => ?_) (fun qc_10 => absurd qc_10 (by decide +kernel))
            refine x_iconst (pc2 := 75) (v := 0) C dX4_extraGas_74 rfl rfl ?_
            rw [fX4_extraGas, if_neg qc_1, if_neg qc_2, if_pos qc_3, if_pos qg_5, if_pos qc_7, if_pos qc_9] at hf
            cases hf
            exact x_ireturn C dX4_extraGas_75 rfl (Nat.le_of_ble_eq_true rfl) (Nat.le_of_ble_eq_true rfl) rfl rfl
          · refine x_iconst (pc2 := 53) (v := 1) C dX4_extraGas_52 rfl rfl ?_
            refine x_goto (tgt := 57) C dX4_extraGas_53 (by decide) ?_
            refine x_istore (pc2 := 59) (lv2 := [(4, _), (0, _), (1, _), (2, _), (3, _)]) C dX4_extraGas_57 (by decide) rfl rfl ?_
            refine x_iload (pc2 := 61) C dX4_extraGas_59 0 rfl rfl ?_
            refine x_if_eq (tgt := 74) (pc2 := 64) C dX4_extraGas_61 (by decide) rfl (fun qc_11 => absurd qc_11 (by decide +kernel)) (fun qc_11 => ?_)
            refine x_aload_n (pc2 := 65) C dX4_extraGas_64 1 rfl rfl rfl ?_
            refine x_getI (pc2 := 68) (f := 405) C (by assumption) kf_4_39 dX4_extraGas_65 rfl rfl rfl ?_
            refine x_bipush (pc2 := 70) (v := 30) C dX4_extraGas_68 rfl rfl ?_
            refine x_isub (pc2 := 71) C dX4_extraGas_70 rfl ?_
            refine x_goto (tgt := 75) C dX4_extraGas_71 (by decide) ?_
            rw [fX4_extraGas, if_neg qc_1, if_neg qc_2, if_pos qc_3, if_pos qg_5, if_pos qc_7, if_neg qc_9] at hf
            cases hf
            exact x_ireturn C dX4_extraGas_75 rfl (Nat.le_of_ble_eq_true rfl) (Nat.le_of_ble_eq_true rfl) rfl rfl
    · refine x_aload_n (pc2 := 13) C dX4_extraGas_12 1 rfl rfl rfl ?_
      refine x_iload_n (pc2 := 14) C dX4_extraGas_13 3 rfl rfl rfl ?_
      refine x_ret (rest := []) (st2 := [_]) (pc2 := 17) (cu2 := 0) (su2 := 0) (x_cV C (by assumption) (Nat.le_of_ble_eq_true rfl) kmX3_growthTo rfl kk_4_236 (tX3_growthTo hok (by assumption)) rfl rfl (Nat.le_of_ble_eq_true rfl) ⟨Nat.le_of_ble_eq_true rfl, Nat.le_of_ble_eq_true rfl⟩ ⟨Nat.le_of_ble_eq_true rfl, Nat.le_of_ble_eq_true rfl⟩ dX4_extraGas_14) rfl rfl rfl rfl ?_
      rw [fX4_extraGas, if_neg qc_1, if_pos qc_2] at hf
      cases hf
      exact x_ireturn C dX4_extraGas_17 rfl (Nat.le_of_ble_eq_true rfl) (Nat.le_of_ble_eq_true rfl) rfl rfl
def fX4_finish (Ω : XO) (b : Nat) (sg : Nat) (i1 : Nat) (x2 : Int32) : Option (Int32 × XO) := (if x2 = (22 : Int32) then (wl ((fX3_take Ω i1).2) (fun Ω_3 => (if xR Ω_3 404 0 = sg then (if xR Ω_3 404 0 = sg then (wl (fX6_gain Ω_3 sg (xI Ω_3 304 i1 0) (-(sAt Ω_3 2011 sg (xI Ω_3 304 i1 0)))) (fun Ω_7 => (if (((fX3_take Ω i1).1) - ((fX3_take Ω i1).1) / (16 : Int32) * (16 : Int32)) = (xI Ω_7 304 i1 0) then (if xR Ω_7 404 0 = sg then (wl (uI Ω_7 604 sg 0 ((xI Ω_7 604 sg 0) + (sAt Ω_3 2011 sg (xI Ω_3 304 i1 0)))) (fun Ω_16 => (if xR Ω_16 404 0 = sg then (wl (fX6_dropProgram Ω_16 sg (xI Ω_16 304 i1 0)) (fun Ω_18 => (wl (uI Ω_18 406 0 0 ((xI Ω_18 406 0 0) + (60 : Int32))) (fun Ω_19 => (if x2 = (23 : Int32) then (some ((0 : Int32), Ω_19)) else (some ((1 : Int32), Ω_19))))))) else none))) else none) else (if xR Ω_7 404 0 = sg then (wl (fX6_gain Ω_7 sg (((fX3_take Ω i1).1) - ((fX3_take Ω i1).1) / (16 : Int32) * (16 : Int32)) (sAt Ω_3 2011 sg (xI Ω_3 304 i1 0))) (fun Ω_10 => (if xR Ω_10 404 0 = sg then (wl (fX6_dropProgram Ω_10 sg (xI Ω_10 304 i1 0)) (fun Ω_12 => (wl (uI Ω_12 406 0 0 ((xI Ω_12 406 0 0) + (60 : Int32))) (fun Ω_13 => (if x2 = (23 : Int32) then (some ((0 : Int32), Ω_13)) else (some ((1 : Int32), Ω_13))))))) else none))) else none)))) else none) else none))) else (if x2 = (23 : Int32) then (some ((0 : Int32), Ω)) else (some ((1 : Int32), Ω))))
set_option maxRecDepth 20000 in
theorem tX4_finish {G : XG} (hok : XK G) {b : Nat} {sg : Nat} {i1 : Nat} {x2 : Int32} {Ω : XO} (hd0 : dm G 4 0) (hd1 : dm G 3 i1) (db : dm G 0 b) (ds : dm G 6 sg)  {r : Int32 × XO} (hf : fX4_finish Ω b sg i1 x2 = some r) : XM G yX4_finish cX4_finish 5 ((some FieldType.boolean)) (RM 2 0) [.ref (ad G 4 0), .ref (ad G 3 i1), .int x2] Ω (.inl (some (.int (r.1)))) r.2 := by
  refine x_start (lv := [(0, .ref (ad G 4 0)), (1, .ref (ad G 3 i1)), (2, .int x2)]) (own := RX4) hok (by decide +kernel) rfl (Nat.le_of_ble_eq_true rfl) rfl (fun B C => ?_)
  refine x_iload_n (pc2 := 1) C dX4_finish_0 2 rfl rfl rfl ?_
  refine x_bipush (pc2 := 3) (v := 22) C dX4_finish_1 rfl rfl ?_
  refine x_icmp_ne (tgt := 101) (pc2 := 6) C dX4_finish_3 (by decide) rfl (fun qc_1 => ?_) (fun qc_1 => ?_)
  · refine x_iload_n (pc2 := 102) C dX4_finish_101 2 rfl rfl rfl ?_
    refine x_bipush (pc2 := 104) (v := 23) C dX4_finish_102 rfl rfl ?_
    refine x_icmp_eq (tgt := 111) (pc2 := 107) C dX4_finish_104 (by decide) rfl (fun qc_2 => ?_) (fun qc_2 => ?_)
    · refine x_iconst (pc2 := 112) (v := 0) C dX4_finish_111 rfl rfl ?_
      rw [fX4_finish, if_neg qc_1, if_pos qc_2] at hf
      cases hf
      exact x_zreturn C dX4_finish_112 rfl (by first | exact Or.inl rfl | exact Or.inr rfl) (Nat.le_of_ble_eq_true rfl) (Nat.le_of_ble_eq_true rfl) rfl rfl
    · refine x_iconst (pc2 := 108) (v := 1) C dX4_finish_107 rfl rfl ?_
      refine x_goto (tgt := 112) C dX4_finish_108 (by decide) ?_
      rw [fX4_finish, if_neg qc_1, if_neg qc_2] at hf
      cases hf
      exact x_zreturn C dX4_finish_112 rfl (by first | exact Or.inl rfl | exact Or.inr rfl) (Nat.le_of_ble_eq_true rfl) (Nat.le_of_ble_eq_true rfl) rfl rfl
  · refine x_aload_n (pc2 := 7) C dX4_finish_6 1 rfl rfl rfl ?_
    refine x_ret (rest := []) (st2 := [_]) (pc2 := 10) (cu2 := 0) (su2 := 0) (x_cV C (by assumption) (Nat.le_of_ble_eq_true rfl) kmX3_take rfl kk_4_249 (tX3_take hok (by assumption)) rfl rfl (Nat.le_of_ble_eq_true rfl) ⟨Nat.le_of_ble_eq_true rfl, Nat.le_of_ble_eq_true rfl⟩ ⟨Nat.le_of_ble_eq_true rfl, Nat.le_of_ble_eq_true rfl⟩ dX4_finish_7) rfl rfl rfl rfl ?_
    obtain ⟨Ω_3, hw_3⟩ : ∃ z, z = (fX3_take Ω i1).2 := ⟨_, rfl⟩
    refine x_om hw_3 ?_
    refine x_bipush (pc2 := 12) (v := 16) C dX4_finish_10 rfl rfl ?_
    refine x_irem (pc2 := 13) C dX4_finish_12 (by decide +kernel) rfl ?_
    refine x_istore_n (pc2 := 14) (lv2 := [(3, _), (0, _), (1, _), (2, _)]) C dX4_finish_13 rfl (by decide) rfl rfl ?_
    refine x_aload_n (pc2 := 15) C dX4_finish_14 1 rfl rfl rfl ?_
    rcases (Decidable.em (xR Ω_3 404 0 = sg)).symm with qg_4 | qg_4
    · exact absurd hf (by rw [fX4_finish, if_pos qc_1, wl_eq hw_3, if_neg qg_4]; exact nofun)
    refine x_getM (pc2 := 18) (f := 404) (k2 := 6) (v9 := sg) C (by assumption) kf_4_33 dX4_finish_15 rfl rfl rfl qg_4 rfl ?_
    refine x_getR (f := 600) (k2 := 2011) (pc2 := 21) C (by assumption) kf_4_125 dX4_finish_18 rfl rfl rfl (rti_i rfl) rfl (fun qd_5 => ?_)
    refine x_aload_n (pc2 := 22) C dX4_finish_21 2 rfl rfl rfl ?_
    refine x_getI (pc2 := 25) (f := 304) C (by assumption) kf_4_242 dX4_finish_22 rfl rfl rfl ?_
    refine x_ret (rest := []) (st2 := [_]) (pc2 := 28) (cu2 := 0) (su2 := 0) (x_cSN C kmX10_at ke_4_129 (tX10_at hok (by assumption) rfl (by decide)) rfl rfl (Nat.le_of_ble_eq_true rfl) ⟨Nat.le_of_ble_eq_true rfl, Nat.le_of_ble_eq_true rfl⟩ ⟨Nat.le_of_ble_eq_true rfl, Nat.le_of_ble_eq_true rfl⟩ dX4_finish_25) rfl rfl rfl rfl ?_
    refine x_istore (pc2 := 30) (lv2 := [(4, _), (3, _), (0, _), (1, _), (2, _)]) C dX4_finish_28 (by decide) rfl rfl ?_
    refine x_aload_n (pc2 := 31) C dX4_finish_30 2 rfl rfl rfl ?_
    rcases (Decidable.em (xR Ω_3 404 0 = sg)).symm with qg_6 | qg_6
    · exact absurd hf (by rw [fX4_finish, if_pos qc_1, wl_eq hw_3, if_pos qg_4, if_neg qg_6]; exact nofun)
    refine x_getM (pc2 := 34) (f := 404) (k2 := 6) (v9 := sg) C (by assumption) kf_4_33 dX4_finish_31 rfl rfl rfl qg_6 rfl ?_
    refine x_aload_n (pc2 := 35) C dX4_finish_34 3 rfl rfl rfl ?_
    refine x_getI (pc2 := 38) (f := 304) C (by assumption) kf_4_242 dX4_finish_35 rfl rfl rfl ?_
    refine x_iload (pc2 := 40) C dX4_finish_38 0 rfl rfl ?_
    refine x_ineg (pc2 := 41) C dX4_finish_40 rfl ?_
    refine x_ret (rest := []) (st2 := []) (pc2 := 44) (cu2 := 0) (su2 := 0) (x_cV C (by assumption) (Nat.le_of_ble_eq_true rfl) kmX6_gain rfl kk_4_63 (tX6_gain hok (by assumption)) rfl rfl (Nat.le_of_ble_eq_true rfl) ⟨Nat.le_of_ble_eq_true rfl, Nat.le_of_ble_eq_true rfl⟩ ⟨Nat.le_of_ble_eq_true rfl, Nat.le_of_ble_eq_true rfl⟩ dX4_finish_41) rfl rfl rfl rfl ?_
    obtain ⟨Ω_7, hw_7⟩ : ∃ z, z = fX6_gain Ω_3 sg (xI Ω_3 304 i1 0) (-(sAt Ω_3 2011 sg (xI Ω_3 304 i1 0))) := ⟨_, rfl⟩
    refine x_om hw_7 ?_
    refine x_iload_n (pc2 := 45) C dX4_finish_44 1 rfl rfl rfl ?_
    refine x_aload_n (pc2 := 46) C dX4_finish_45 3 rfl rfl rfl ?_
    refine x_getI (pc2 := 49) (f := 304) C (by assumption) kf_4_242 dX4_finish_46 rfl rfl rfl ?_
    refine x_icmp_ne (tgt := 69) (pc2 := 52) C dX4_finish_49 (by decide) rfl (fun qc_8 => ?_) (fun qc_8 => ?_)
    · refine x_aload_n (pc2 := 70) C dX4_finish_69 2 rfl rfl rfl ?_
      rcases (Decidable.em (xR Ω_7 404 0 = sg)).symm with qg_9 | qg_9
      · exact absurd hf (by rw [fX4_finish, if_pos qc_1, wl_eq hw_3, if_pos qg_4, if_pos qg_6, wl_eq hw_7, if_neg qc_8, if_neg qg_9]; exact nofun)
      refine x_getM (pc2 := 73) (f := 404) (k2 := 6) (v9 := sg) C (by assumption) kf_4_33 dX4_finish_70 rfl rfl rfl qg_9 rfl ?_
      refine x_iload_n (pc2 := 74) C dX4_finish_73 1 rfl rfl rfl ?_
      refine x_iload (pc2 := 76) C dX4_finish_74 0 rfl rfl ?_
      refine x_ret (rest := []) (st2 := []) (pc2 := 79) (cu2 := 0) (su2 := 0) (x_cV C (by assumption) (Nat.le_of_ble_eq_true rfl) kmX6_gain rfl kk_4_63 (tX6_gain hok (by assumption)) rfl rfl (Nat.le_of_ble_eq_true rfl) ⟨Nat.le_of_ble_eq_true rfl, Nat.le_of_ble_eq_true rfl⟩ ⟨Nat.le_of_ble_eq_true rfl, Nat.le_of_ble_eq_true rfl⟩ dX4_finish_76) rfl rfl rfl rfl ?_
      obtain ⟨Ω_10, hw_10⟩ : ∃ z, z = fX6_gain Ω_7 sg (((fX3_take Ω i1).1) - ((fX3_take Ω i1).1) / (16 : Int32) * (16 : Int32)) (sAt Ω_3 2011 sg (xI Ω_3 304 i1 0)) := ⟨_, rfl⟩
      refine x_om hw_10 ?_
      refine x_aload_n (pc2 := 80) C dX4_finish_79 2 rfl rfl rfl ?_
      rcases (Decidable.em (xR Ω_10 404 0 = sg)).symm with qg_11 | qg_11
      · exact absurd hf (by rw [fX4_finish, if_pos qc_1, wl_eq hw_3, if_pos qg_4, if_pos qg_6, wl_eq hw_7, if_neg qc_8, if_pos qg_9, wl_eq hw_10, if_neg qg_11]; exact nofun)
      refine x_getM (pc2 := 83) (f := 404) (k2 := 6) (v9 := sg) C (by assumption) kf_4_33 dX4_finish_80 rfl rfl rfl qg_11 rfl ?_
      refine x_aload_n (pc2 := 84) C dX4_finish_83 3 rfl rfl rfl ?_
      refine x_getI (pc2 := 87) (f := 304) C (by assumption) kf_4_242 dX4_finish_84 rfl rfl rfl ?_
      refine x_ret (rest := []) (st2 := []) (pc2 := 90) (cu2 := 0) (su2 := 0) (x_cV C (by assumption) (Nat.le_of_ble_eq_true rfl) kmX6_dropProgram rfl kk_4_252 (tX6_dropProgram hok (by assumption)) rfl rfl (Nat.le_of_ble_eq_true rfl) ⟨Nat.le_of_ble_eq_true rfl, Nat.le_of_ble_eq_true rfl⟩ ⟨Nat.le_of_ble_eq_true rfl, Nat.le_of_ble_eq_true rfl⟩ dX4_finish_87) rfl rfl rfl rfl ?_
      obtain ⟨Ω_12, hw_12⟩ : ∃ z, z = fX6_dropProgram Ω_10 sg (xI Ω_10 304 i1 0) := ⟨_, rfl⟩
      refine x_om hw_12 ?_
      refine x_aload_n (pc2 := 91) C dX4_finish_90 2 rfl rfl rfl ?_
      refine x_dup (pc2 := 92) C dX4_finish_91 rfl rfl ?_
      refine x_getI (pc2 := 95) (f := 406) C (by assumption) kf_4_67 dX4_finish_92 rfl rfl rfl ?_
      refine x_bipush (pc2 := 97) (v := 60) C dX4_finish_95 rfl rfl ?_
      refine x_iadd (pc2 := 98) C dX4_finish_97 rfl ?_
      refine x_putI (pc2 := 101) (f := 406) C (by assumption) kf_4_67 dX4_finish_98 rfl rfl rfl rfl rfl ?_
      obtain ⟨Ω_13, hw_13⟩ : ∃ z, z = uI Ω_12 406 0 0 ((xI Ω_12 406 0 0) + (60 : Int32)) := ⟨_, rfl⟩
      refine x_om hw_13 ?_
      refine x_iload_n (pc2 := 102) C dX4_finish_101 4 rfl rfl rfl ?_
      refine x_bipush (pc2 := 104) (v := 23) C dX4_finish_102 rfl rfl ?_
      refine x_icmp_eq (tgt := 111) (pc2 := 107) C dX4_finish_104 (by decide) rfl (fun qc_14 => ?_) (fun qc_14 => ?_)
      · refine x_iconst (pc2 := 112) (v := 0) C dX4_finish_111 rfl rfl ?_
        rw [fX4_finish, if_pos qc_1, wl_eq hw_3, if_pos qg_4, if_pos qg_6, wl_eq hw_7, if_neg qc_8, if_pos qg_9, wl_eq hw_10, if_pos qg_11, wl_eq hw_12, wl_eq hw_13, if_pos qc_14] at hf
        cases hf
        exact x_zreturn C dX4_finish_112 rfl (by first | exact Or.inl rfl | exact Or.inr rfl) (Nat.le_of_ble_eq_true rfl) (Nat.le_of_ble_eq_true rfl) rfl rfl
      · refine x_iconst (pc2 := 108) (v := 1) C dX4_finish_107 rfl rfl ?_
        refine x_goto (tgt := 112) C dX4_finish_108 (by decide) ?_
        rw [fX4_finish, if_pos qc_1, wl_eq hw_3, if_pos qg_4, if_pos qg_6, wl_eq hw_7, if_neg qc_8, if_pos qg_9, wl_eq hw_10, if_pos qg_11, wl_eq hw_12, wl_eq hw_13, if_neg qc_14] at hf
        cases hf
        exact x_zreturn C dX4_finish_112 rfl (by first | exact Or.inl rfl | exact Or.inr rfl) (Nat.le_of_ble_eq_true rfl) (Nat.le_of_ble_eq_true rfl) rfl rfl
    · refine x_aload_n (pc2 := 53) C dX4_finish_52 2 rfl rfl rfl ?_
      rcases (Decidable.em (xR Ω_7 404 0 = sg)).symm with qg_15 | qg_15
      · exact absurd hf (by rw [fX4_finish, if_pos qc_1, wl_eq hw_3, if_pos qg_4, if_pos qg_6, wl_eq hw_7, if_pos qc_8, if_neg qg_15]; exact nofun)
      refine x_getM (pc2 := 56) (f := 404) (k2 := 6) (v9 := sg) C (by assumption) kf_4_33 dX4_finish_53 rfl rfl rfl qg_15 rfl ?_
      refine x_dup (pc2 := 57) C dX4_finish_56 rfl rfl ?_
      refine x_getI (pc2 := 60) (f := 604) C (by assumption) kf_4_115 dX4_finish_57 rfl rfl rfl ?_
      refine x_iload (pc2 := 62) C dX4_finish_60 0 rfl rfl ?_
      refine x_iadd (pc2 := 63) C dX4_finish_62 rfl ?_
      refine x_putI (pc2 := 66) (f := 604) C (by assumption) kf_4_115 dX4_finish_63 rfl rfl rfl rfl rfl ?_
      obtain ⟨Ω_16, hw_16⟩ : ∃ z, z = uI Ω_7 604 sg 0 ((xI Ω_7 604 sg 0) + (sAt Ω_3 2011 sg (xI Ω_3 304 i1 0))) := ⟨_, rfl⟩
      refine x_om hw_16 ?_
      refine x_goto (tgt := 79) C dX4_finish_66 (by decide) ?_
      refine x_aload_n (pc2 := 80) C dX4_finish_79 2 rfl rfl rfl ?_
      rcases (Decidable.em (xR Ω_16 404 0 = sg)).symm with qg_17 | qg_17
      · exact absurd hf (by rw [fX4_finish, if_pos qc_1, wl_eq hw_3, if_pos qg_4, if_pos qg_6, wl_eq hw_7, if_pos qc_8, if_pos qg_15, wl_eq hw_16, if_neg qg_17]; exact nofun)
      refine x_getM (pc2 := 83) (f := 404) (k2 := 6) (v9 := sg) C (by assumption) kf_4_33 dX4_finish_80 rfl rfl rfl qg_17 rfl ?_
      refine x_aload_n (pc2 := 84) C dX4_finish_83 3 rfl rfl rfl ?_
      refine x_getI (pc2 := 87) (f := 304) C (by assumption) kf_4_242 dX4_finish_84 rfl rfl rfl ?_
      refine x_ret (rest := []) (st2 := []) (pc2 := 90) (cu2 := 0) (su2 := 0) (x_cV C (by assumption) (Nat.le_of_ble_eq_true rfl) kmX6_dropProgram rfl kk_4_252 (tX6_dropProgram hok (by assumption)) rfl rfl (Nat.le_of_ble_eq_true rfl) ⟨Nat.le_of_ble_eq_true rfl, Nat.le_of_ble_eq_true rfl⟩ ⟨Nat.le_of_ble_eq_true rfl, Nat.le_of_ble_eq_true rfl⟩ dX4_finish_87) rfl rfl rfl rfl ?_
      obtain ⟨Ω_18, hw_18⟩ : ∃ z, z = fX6_dropProgram Ω_16 sg (xI Ω_16 304 i1 0) := ⟨_, rfl⟩
      refine x_om hw_18 ?_
      refine x_aload_n (pc2 := 91) C dX4_finish_90 2 rfl rfl rfl ?_
      refine x_dup (pc2 := 92) C dX4_finish_91 rfl rfl ?_
      refine x_getI (pc2 := 95) (f := 406) C (by assumption) kf_4_67 dX4_finish_92 rfl rfl rfl ?_
      refine x_bipush (pc2 := 97) (v := 60) C dX4_finish_95 rfl rfl ?_
      refine x_iadd (pc2 := 98) C dX4_finish_97 rfl ?_
      refine x_putI (pc2 := 101) (f := 406) C (by assumption) kf_4_67 dX4_finish_98 rfl rfl rfl rfl rfl ?_
      obtain ⟨Ω_19, hw_19⟩ : ∃ z, z = uI Ω_18 406 0 0 ((xI Ω_18 406 0 0) + (60 : Int32)) := ⟨_, rfl⟩
      refine x_om hw_19 ?_
      refine x_iload_n (pc2 := 102) C dX4_finish_101 4 rfl rfl rfl ?_
      refine x_bipush (pc2 := 104) (v := 23) C dX4_finish_102 rfl rfl ?_
      refine x_icmp_eq (tgt := 111) (pc2 := 107) C dX4_finish_104 (by decide) rfl (fun qc_20 => ?_) (fun qc_20 => ?_)
      · refine x_iconst (pc2 := 112) (v := 0) C dX4_finish_111 rfl rfl ?_
        rw [fX4_finish, if_pos qc_1, wl_eq hw_3, if_pos qg_4, if_pos qg_6, wl_eq hw_7, if_pos qc_8, if_pos qg_15, wl_eq hw_16, if_pos qg_17, wl_eq hw_18, wl_eq hw_19, if_pos qc_20] at hf
        cases hf
        exact x_zreturn C dX4_finish_112 rfl (by first | exact Or.inl rfl | exact Or.inr rfl) (Nat.le_of_ble_eq_true rfl) (Nat.le_of_ble_eq_true rfl) rfl rfl
      · refine x_iconst (pc2 := 108) (v := 1) C dX4_finish_107 rfl rfl ?_
        refine x_goto (tgt := 112) C dX4_finish_108 (by decide) ?_
        rw [fX4_finish, if_pos qc_1, wl_eq hw_3, if_pos qg_4, if_pos qg_6, wl_eq hw_7, if_pos qc_8, if_pos qg_15, wl_eq hw_16, if_pos qg_17, wl_eq hw_18, wl_eq hw_19, if_neg qc_20] at hf
        cases hf
        exact x_zreturn C dX4_finish_112 rfl (by first | exact Or.inl rfl | exact Or.inr rfl) (Nat.le_of_ble_eq_true rfl) (Nat.le_of_ble_eq_true rfl) rfl rfl
def fX4_touchState (Ω : XO) (b : Nat) (sg : Nat) (i1 : Nat) (x2 : Int32) (x3 : Int32) : Option (Int32 × XO) := (if x2 = 9 then (if xR Ω 404 0 = sg then (wl (fX3_push Ω i1 (sAt Ω 2014 sg (((xI Ω 304 i1 0) * (4 : Int32)) + x3))) (fun Ω_4 => (some ((1 : Int32), Ω_4)))) else none) else (if x2 = 10 then (wl ((fX3_take Ω i1).2) (fun Ω_6 => (fX4_write Ω_6 b sg (((xI Ω 304 i1 0) * (4 : Int32)) + x3) ((fX3_take Ω i1).1)).bind (fun r_7 => (some ((1 : Int32), r_7))))) else (if x2 = 16 then (if xR Ω 404 0 = sg then (wl ((fX3_take Ω i1).2) (fun Ω_11 => (wl (fX3_push Ω_11 i1 ((sAt Ω_11 2011 sg (((fX3_take Ω i1).1) - ((fX3_take Ω i1).1) / (16 : Int32) * (16 : Int32))) - (sAt Ω_11 2011 sg (((fX3_take Ω i1).1) - ((fX3_take Ω i1).1) / (16 : Int32) * (16 : Int32))) / (1000000 : Int32) * (1000000 : Int32))) (fun Ω_12 => (some ((1 : Int32), Ω_12)))))) else none) else (if x2 = 20 then (if xR Ω 403 0 = b then (wl ((fX3_take Ω i1).2) (fun Ω_15 => (wl (fX0_addEvent Ω_15 b (((fX3_take Ω i1).1) - ((fX3_take Ω i1).1) / (16 : Int32) * (16 : Int32)) (xI Ω_15 304 i1 0)) (fun Ω_16 => (some ((1 : Int32), Ω_16)))))) else none) else (some ((0 : Int32), Ω))))))
set_option maxRecDepth 20000 in
theorem tX4_touchState {G : XG} (hok : XK G) {b : Nat} {sg : Nat} {i1 : Nat} {x2 : Int32} {x3 : Int32} {Ω : XO} (hd0 : dm G 4 0) (hd1 : dm G 3 i1) (db : dm G 0 b) (ds : dm G 6 sg)  {r : Int32 × XO} (hf : fX4_touchState Ω b sg i1 x2 x3 = some r) : XM G yX4_touchState cX4_touchState 4 ((some FieldType.boolean)) (RM 2 0) [.ref (ad G 4 0), .ref (ad G 3 i1), .int x2, .int x3] Ω (.inl (some (.int (r.1)))) r.2 := by
  refine x_start (lv := [(0, .ref (ad G 4 0)), (1, .ref (ad G 3 i1)), (2, .int x2), (3, .int x3)]) (own := RX4) hok (by decide +kernel) rfl (Nat.le_of_ble_eq_true rfl) rfl (fun B C => ?_)
  refine x_iload_n (pc2 := 1) C dX4_touchState_0 2 rfl rfl rfl ?_
  rcases Decidable.em (x2 = 9) with qc_1 | qc_1
  · refine x_lookup (tgt := 44) C dX4_touchState_1 (by decide) (by first | (rw [qc_1]; done) | (rw [qc_1]; decide)) (by decide) ?_
    refine x_aload_n (pc2 := 45) C dX4_touchState_44 1 rfl rfl rfl ?_
    refine x_aload_n (pc2 := 46) C dX4_touchState_45 0 rfl rfl rfl ?_
    rcases (Decidable.em (xR Ω 404 0 = sg)).symm with qg_2 | qg_2
    · exact absurd hf (by rw [fX4_touchState, if_pos qc_1, if_neg qg_2]; exact nofun)
    refine x_getM (pc2 := 49) (f := 404) (k2 := 6) (v9 := sg) C (by assumption) kf_4_33 dX4_touchState_46 rfl rfl rfl qg_2 rfl ?_
    refine x_getR (f := 603) (k2 := 2014) (pc2 := 52) C (by assumption) kf_4_239 dX4_touchState_49 rfl rfl rfl (rti_i rfl) rfl (fun qd_3 => ?_)
    refine x_aload_n (pc2 := 53) C dX4_touchState_52 1 rfl rfl rfl ?_
    refine x_getI (pc2 := 56) (f := 304) C (by assumption) kf_4_242 dX4_touchState_53 rfl rfl rfl ?_
    refine x_iconst (pc2 := 57) (v := 4) C dX4_touchState_56 rfl rfl ?_
    refine x_imul (pc2 := 58) C dX4_touchState_57 rfl ?_
    refine x_iload_n (pc2 := 59) C dX4_touchState_58 3 rfl rfl rfl ?_
    refine x_iadd (pc2 := 60) C dX4_touchState_59 rfl ?_
    refine x_ret (rest := [_]) (st2 := [_, _]) (pc2 := 63) (cu2 := 0) (su2 := 0) (x_cSN C kmX10_at ke_4_129 (tX10_at hok (by assumption) rfl (by decide)) rfl rfl (Nat.le_of_ble_eq_true rfl) ⟨Nat.le_of_ble_eq_true rfl, Nat.le_of_ble_eq_true rfl⟩ ⟨Nat.le_of_ble_eq_true rfl, Nat.le_of_ble_eq_true rfl⟩ dX4_touchState_60) rfl rfl rfl rfl ?_
    refine x_ret (rest := []) (st2 := []) (pc2 := 66) (cu2 := 0) (su2 := 0) (x_cV C (by assumption) (Nat.le_of_ble_eq_true rfl) kmX3_push rfl kk_4_255 (tX3_push hok (by assumption)) rfl rfl (Nat.le_of_ble_eq_true rfl) ⟨Nat.le_of_ble_eq_true rfl, Nat.le_of_ble_eq_true rfl⟩ ⟨Nat.le_of_ble_eq_true rfl, Nat.le_of_ble_eq_true rfl⟩ dX4_touchState_63) rfl rfl rfl rfl ?_
    obtain ⟨Ω_4, hw_4⟩ : ∃ z, z = fX3_push Ω i1 (sAt Ω 2014 sg (((xI Ω 304 i1 0) * (4 : Int32)) + x3)) := ⟨_, rfl⟩
    refine x_om hw_4 ?_
    refine x_iconst (pc2 := 67) (v := 1) C dX4_touchState_66 rfl rfl ?_
    rw [fX4_touchState, if_pos qc_1, if_pos qg_2, wl_eq hw_4] at hf
    cases hf
    exact x_zreturn C dX4_touchState_67 rfl (by first | exact Or.inl rfl | exact Or.inr rfl) (Nat.le_of_ble_eq_true rfl) (Nat.le_of_ble_eq_true rfl) rfl rfl
  · rcases Decidable.em (x2 = 10) with qc_5 | qc_5
    · refine x_lookup (tgt := 68) C dX4_touchState_1 (by decide) (by first | (rw [qc_5]; done) | (rw [qc_5]; decide)) (by decide) ?_
      refine x_aload_n (pc2 := 69) C dX4_touchState_68 0 rfl rfl rfl ?_
      refine x_aload_n (pc2 := 70) C dX4_touchState_69 1 rfl rfl rfl ?_
      refine x_getI (pc2 := 73) (f := 304) C (by assumption) kf_4_242 dX4_touchState_70 rfl rfl rfl ?_
      refine x_iconst (pc2 := 74) (v := 4) C dX4_touchState_73 rfl rfl ?_
      refine x_imul (pc2 := 75) C dX4_touchState_74 rfl ?_
      refine x_iload_n (pc2 := 76) C dX4_touchState_75 3 rfl rfl rfl ?_
      refine x_iadd (pc2 := 77) C dX4_touchState_76 rfl ?_
      refine x_aload_n (pc2 := 78) C dX4_touchState_77 1 rfl rfl rfl ?_
      refine x_ret (rest := [_, _]) (st2 := [_, _, _]) (pc2 := 81) (cu2 := 0) (su2 := 0) (x_cV C (by assumption) (Nat.le_of_ble_eq_true rfl) kmX3_take rfl kk_4_249 (tX3_take hok (by assumption)) rfl rfl (Nat.le_of_ble_eq_true rfl) ⟨Nat.le_of_ble_eq_true rfl, Nat.le_of_ble_eq_true rfl⟩ ⟨Nat.le_of_ble_eq_true rfl, Nat.le_of_ble_eq_true rfl⟩ dX4_touchState_78) rfl rfl rfl rfl ?_
      obtain ⟨Ω_6, hw_6⟩ : ∃ z, z = (fX3_take Ω i1).2 := ⟨_, rfl⟩
      refine x_om hw_6 ?_
      rcases hq_7 : fX4_write Ω_6 b sg (((xI Ω 304 i1 0) * (4 : Int32)) + x3) ((fX3_take Ω i1).1) with _ | r_7
      · exact absurd hf (by rw [fX4_touchState, if_neg qc_1, if_pos qc_5, wl_eq hw_6, hq_7, Option.bind_none]; exact nofun)
      refine x_ret (rest := []) (st2 := []) (pc2 := 84) (cu2 := 0) (su2 := 0) (x_cV C (by assumption) (Nat.le_of_ble_eq_true rfl) kmX4_write rfl kk_4_258 (tX4_write hok (by assumption) (by assumption) (by assumption)  hq_7) rfl rfl (Nat.le_of_ble_eq_true rfl) ⟨Nat.le_of_ble_eq_true rfl, Nat.le_of_ble_eq_true rfl⟩ ⟨Nat.le_of_ble_eq_true rfl, Nat.le_of_ble_eq_true rfl⟩ dX4_touchState_81) rfl rfl rfl rfl ?_
      refine x_iconst (pc2 := 85) (v := 1) C dX4_touchState_84 rfl rfl ?_
      rw [fX4_touchState, if_neg qc_1, if_pos qc_5, wl_eq hw_6, hq_7, Option.bind_some] at hf
      cases hf
      exact x_zreturn C dX4_touchState_85 rfl (by first | exact Or.inl rfl | exact Or.inr rfl) (Nat.le_of_ble_eq_true rfl) (Nat.le_of_ble_eq_true rfl) rfl rfl
    · rcases Decidable.em (x2 = 16) with qc_8 | qc_8
      · refine x_lookup (tgt := 86) C dX4_touchState_1 (by decide) (by first | (rw [qc_8]; done) | (rw [qc_8]; decide)) (by decide) ?_
        refine x_aload_n (pc2 := 87) C dX4_touchState_86 1 rfl rfl rfl ?_
        refine x_aload_n (pc2 := 88) C dX4_touchState_87 0 rfl rfl rfl ?_
        rcases (Decidable.em (xR Ω 404 0 = sg)).symm with qg_9 | qg_9
        · exact absurd hf (by rw [fX4_touchState, if_neg qc_1, if_neg qc_5, if_pos qc_8, if_neg qg_9]; exact nofun)
        refine x_getM (pc2 := 91) (f := 404) (k2 := 6) (v9 := sg) C (by assumption) kf_4_33 dX4_touchState_88 rfl rfl rfl qg_9 rfl ?_
        refine x_getR (f := 600) (k2 := 2011) (pc2 := 94) C (by assumption) kf_4_125 dX4_touchState_91 rfl rfl rfl (rti_i rfl) rfl (fun qd_10 => ?_)
        refine x_aload_n (pc2 := 95) C dX4_touchState_94 1 rfl rfl rfl ?_
        refine x_ret (rest := [_, _]) (st2 := [_, _, _]) (pc2 := 98) (cu2 := 0) (su2 := 0) (x_cV C (by assumption) (Nat.le_of_ble_eq_true rfl) kmX3_take rfl kk_4_249 (tX3_take hok (by assumption)) rfl rfl (Nat.le_of_ble_eq_true rfl) ⟨Nat.le_of_ble_eq_true rfl, Nat.le_of_ble_eq_true rfl⟩ ⟨Nat.le_of_ble_eq_true rfl, Nat.le_of_ble_eq_true rfl⟩ dX4_touchState_95) rfl rfl rfl rfl ?_
        obtain ⟨Ω_11, hw_11⟩ : ∃ z, z = (fX3_take Ω i1).2 := ⟨_, rfl⟩
        refine x_om hw_11 ?_
        refine x_bipush (pc2 := 100) (v := 16) C dX4_touchState_98 rfl rfl ?_
        refine x_irem (pc2 := 101) C dX4_touchState_100 (by decide +kernel) rfl ?_
        refine x_ret (rest := [_]) (st2 := [_, _]) (pc2 := 104) (cu2 := 0) (su2 := 0) (x_cSN C kmX10_at ke_4_129 (tX10_at hok (by assumption) rfl (by decide)) rfl rfl (Nat.le_of_ble_eq_true rfl) ⟨Nat.le_of_ble_eq_true rfl, Nat.le_of_ble_eq_true rfl⟩ ⟨Nat.le_of_ble_eq_true rfl, Nat.le_of_ble_eq_true rfl⟩ dX4_touchState_101) rfl rfl rfl rfl ?_
        refine x_ldc (pc2 := 106) C kc_4_189 dX4_touchState_104 rfl ?_
        refine x_irem (pc2 := 107) C dX4_touchState_106 (by decide +kernel) rfl ?_
        refine x_ret (rest := []) (st2 := []) (pc2 := 110) (cu2 := 0) (su2 := 0) (x_cV C (by assumption) (Nat.le_of_ble_eq_true rfl) kmX3_push rfl kk_4_255 (tX3_push hok (by assumption)) rfl rfl (Nat.le_of_ble_eq_true rfl) ⟨Nat.le_of_ble_eq_true rfl, Nat.le_of_ble_eq_true rfl⟩ ⟨Nat.le_of_ble_eq_true rfl, Nat.le_of_ble_eq_true rfl⟩ dX4_touchState_107) rfl rfl rfl rfl ?_
        obtain ⟨Ω_12, hw_12⟩ : ∃ z, z = fX3_push Ω_11 i1 ((sAt Ω_11 2011 sg (((fX3_take Ω i1).1) - ((fX3_take Ω i1).1) / (16 : Int32) * (16 : Int32))) - (sAt Ω_11 2011 sg (((fX3_take Ω i1).1) - ((fX3_take Ω i1).1) / (16 : Int32) * (16 : Int32))) / (1000000 : Int32) * (1000000 : Int32)) := ⟨_, rfl⟩
        refine x_om hw_12 ?_
        refine x_iconst (pc2 := 111) (v := 1) C dX4_touchState_110 rfl rfl ?_
        rw [fX4_touchState, if_neg qc_1, if_neg qc_5, if_pos qc_8, if_pos qg_9, wl_eq hw_11, wl_eq hw_12] at hf
        cases hf
        exact x_zreturn C dX4_touchState_111 rfl (by first | exact Or.inl rfl | exact Or.inr rfl) (Nat.le_of_ble_eq_true rfl) (Nat.le_of_ble_eq_true rfl) rfl rfl
      · rcases Decidable.em (x2 = 20) with qc_13 | qc_13
        · refine x_lookup (tgt := 112) C dX4_touchState_1 (by decide) (by first | (rw [qc_13]; done) | (rw [qc_13]; decide)) (by decide) ?_
          refine x_aload_n (pc2 := 113) C dX4_touchState_112 0 rfl rfl rfl ?_
          rcases (Decidable.em (xR Ω 403 0 = b)).symm with qg_14 | qg_14
          · exact absurd hf (by rw [fX4_touchState, if_neg qc_1, if_neg qc_5, if_neg qc_8, if_pos qc_13, if_neg qg_14]; exact nofun)
          refine x_getM (pc2 := 116) (f := 403) (k2 := 0) (v9 := b) C (by assumption) kf_4_26 dX4_touchState_113 rfl rfl rfl qg_14 rfl ?_
          refine x_aload_n (pc2 := 117) C dX4_touchState_116 1 rfl rfl rfl ?_
          refine x_ret (rest := [_]) (st2 := [_, _]) (pc2 := 120) (cu2 := 0) (su2 := 0) (x_cV C (by assumption) (Nat.le_of_ble_eq_true rfl) kmX3_take rfl kk_4_249 (tX3_take hok (by assumption)) rfl rfl (Nat.le_of_ble_eq_true rfl) ⟨Nat.le_of_ble_eq_true rfl, Nat.le_of_ble_eq_true rfl⟩ ⟨Nat.le_of_ble_eq_true rfl, Nat.le_of_ble_eq_true rfl⟩ dX4_touchState_117) rfl rfl rfl rfl ?_
          obtain ⟨Ω_15, hw_15⟩ : ∃ z, z = (fX3_take Ω i1).2 := ⟨_, rfl⟩
          refine x_om hw_15 ?_
          refine x_bipush (pc2 := 122) (v := 16) C dX4_touchState_120 rfl rfl ?_
          refine x_irem (pc2 := 123) C dX4_touchState_122 (by decide +kernel) rfl ?_
          refine x_aload_n (pc2 := 124) C dX4_touchState_123 1 rfl rfl rfl ?_
          refine x_getI (pc2 := 127) (f := 304) C (by assumption) kf_4_242 dX4_touchState_124 rfl rfl rfl ?_
          refine x_ret (rest := []) (st2 := []) (pc2 := 130) (cu2 := 0) (su2 := 0) (x_cV C (by assumption) (Nat.le_of_ble_eq_true rfl) kmX0_addEvent rfl kk_4_261 (tX0_addEvent hok (by assumption)) rfl rfl (Nat.le_of_ble_eq_true rfl) ⟨Nat.le_of_ble_eq_true rfl, Nat.le_of_ble_eq_true rfl⟩ ⟨Nat.le_of_ble_eq_true rfl, Nat.le_of_ble_eq_true rfl⟩ dX4_touchState_127) rfl rfl rfl rfl ?_
          obtain ⟨Ω_16, hw_16⟩ : ∃ z, z = fX0_addEvent Ω_15 b (((fX3_take Ω i1).1) - ((fX3_take Ω i1).1) / (16 : Int32) * (16 : Int32)) (xI Ω_15 304 i1 0) := ⟨_, rfl⟩
          refine x_om hw_16 ?_
          refine x_iconst (pc2 := 131) (v := 1) C dX4_touchState_130 rfl rfl ?_
          rw [fX4_touchState, if_neg qc_1, if_neg qc_5, if_neg qc_8, if_pos qc_13, if_pos qg_14, wl_eq hw_15, wl_eq hw_16] at hf
          cases hf
          exact x_zreturn C dX4_touchState_131 rfl (by first | exact Or.inl rfl | exact Or.inr rfl) (Nat.le_of_ble_eq_true rfl) (Nat.le_of_ble_eq_true rfl) rfl rfl
        · refine x_lookup (tgt := 132) C dX4_touchState_1 (by decide) (x_lout (by intro p hp h9; simp only [List.mem_cons, List.not_mem_nil, or_false] at hp; rcases hp with rfl | rfl | rfl | rfl; exact absurd ((Int32.toInt_inj (x := x2) (y := (9 : Int32))).mp h9) qc_1; exact absurd ((Int32.toInt_inj (x := x2) (y := (10 : Int32))).mp h9) qc_5; exact absurd ((Int32.toInt_inj (x := x2) (y := (16 : Int32))).mp h9) qc_8; exact absurd ((Int32.toInt_inj (x := x2) (y := (20 : Int32))).mp h9) qc_13)) (by decide) ?_
          refine x_iconst (pc2 := 133) (v := 0) C dX4_touchState_132 rfl rfl ?_
          rw [fX4_touchState, if_neg qc_1, if_neg qc_5, if_neg qc_8, if_neg qc_13] at hf
          cases hf
          exact x_zreturn C dX4_touchState_133 rfl (by first | exact Or.inl rfl | exact Or.inr rfl) (Nat.le_of_ble_eq_true rfl) (Nat.le_of_ble_eq_true rfl) rfl rfl
def fX4_makeFrom (Ω : XO) (b : Nat) (sg : Nat) (i1 : Nat) (x2 : Int32) : Option (XO) := (wl ((fX3_take Ω i1).2) (fun Ω_1 => (if xR Ω_1 404 0 = sg then (if xR Ω_1 404 0 = sg then (wl (fX6_raiseNonce Ω_1 sg (xI Ω_1 304 i1 0)) (fun Ω_5 => (if xR Ω_5 404 0 = sg then (if (sAt Ω_5 2011 sg (xI Ω_5 304 i1 0)) < ((fX3_take Ω i1).1) then (wl (fX3_push Ω_5 i1 (0 : Int32)) (fun Ω_10 => (some Ω_10))) else (fX4_found Ω_5 b sg (xI Ω_5 304 i1 0) (sAt Ω_1 2012 sg (xI Ω_1 304 i1 0)) x2 ((fX3_take Ω i1).1)).bind (fun r_12 => (wl (fX3_push r_12.2 i1 r_12.1) (fun Ω_13 => (some Ω_13))))) else none))) else none) else none)))
set_option maxRecDepth 20000 in
theorem tX4_makeFrom {G : XG} (hok : XK G) {b : Nat} {sg : Nat} {i1 : Nat} {x2 : Int32} {Ω : XO} (hd0 : dm G 4 0) (hd1 : dm G 3 i1) (db : dm G 0 b) (ds : dm G 6 sg)  {r : XO} (hf : fX4_makeFrom Ω b sg i1 x2 = some r) : XM G yX4_makeFrom cX4_makeFrom 6 none (RM 2 0) [.ref (ad G 4 0), .ref (ad G 3 i1), .int x2] Ω (.inl none) (r) := by
  refine x_start (lv := [(0, .ref (ad G 4 0)), (1, .ref (ad G 3 i1)), (2, .int x2)]) (own := RX4) hok (by decide +kernel) rfl (Nat.le_of_ble_eq_true rfl) rfl (fun B C => ?_)
  refine x_aload_n (pc2 := 1) C dX4_makeFrom_0 1 rfl rfl rfl ?_
  refine x_ret (rest := []) (st2 := [_]) (pc2 := 4) (cu2 := 0) (su2 := 0) (x_cV C (by assumption) (Nat.le_of_ble_eq_true rfl) kmX3_take rfl kk_4_249 (tX3_take hok (by assumption)) rfl rfl (Nat.le_of_ble_eq_true rfl) ⟨Nat.le_of_ble_eq_true rfl, Nat.le_of_ble_eq_true rfl⟩ ⟨Nat.le_of_ble_eq_true rfl, Nat.le_of_ble_eq_true rfl⟩ dX4_makeFrom_1) rfl rfl rfl rfl ?_
  obtain ⟨Ω_1, hw_1⟩ : ∃ z, z = (fX3_take Ω i1).2 := ⟨_, rfl⟩
  refine x_om hw_1 ?_
  refine x_istore_n (pc2 := 5) (lv2 := [(3, _), (0, _), (1, _), (2, _)]) C dX4_makeFrom_4 rfl (by decide) rfl rfl ?_
  refine x_aload_n (pc2 := 6) C dX4_makeFrom_5 1 rfl rfl rfl ?_
  rcases (Decidable.em (xR Ω_1 404 0 = sg)).symm with qg_2 | qg_2
  · exact absurd hf (by rw [fX4_makeFrom, wl_eq hw_1, if_neg qg_2]; exact nofun)
  refine x_getM (pc2 := 9) (f := 404) (k2 := 6) (v9 := sg) C (by assumption) kf_4_33 dX4_makeFrom_6 rfl rfl rfl qg_2 rfl ?_
  refine x_getR (f := 601) (k2 := 2012) (pc2 := 12) C (by assumption) kf_4_150 dX4_makeFrom_9 rfl rfl rfl (rti_i rfl) rfl (fun qd_3 => ?_)
  refine x_aload_n (pc2 := 13) C dX4_makeFrom_12 2 rfl rfl rfl ?_
  refine x_getI (pc2 := 16) (f := 304) C (by assumption) kf_4_242 dX4_makeFrom_13 rfl rfl rfl ?_
  refine x_ret (rest := []) (st2 := [_]) (pc2 := 19) (cu2 := 0) (su2 := 0) (x_cSN C kmX10_at ke_4_129 (tX10_at hok (by assumption) rfl (by decide)) rfl rfl (Nat.le_of_ble_eq_true rfl) ⟨Nat.le_of_ble_eq_true rfl, Nat.le_of_ble_eq_true rfl⟩ ⟨Nat.le_of_ble_eq_true rfl, Nat.le_of_ble_eq_true rfl⟩ dX4_makeFrom_16) rfl rfl rfl rfl ?_
  refine x_istore (pc2 := 21) (lv2 := [(4, _), (3, _), (0, _), (1, _), (2, _)]) C dX4_makeFrom_19 (by decide) rfl rfl ?_
  refine x_aload_n (pc2 := 22) C dX4_makeFrom_21 2 rfl rfl rfl ?_
  rcases (Decidable.em (xR Ω_1 404 0 = sg)).symm with qg_4 | qg_4
  · exact absurd hf (by rw [fX4_makeFrom, wl_eq hw_1, if_pos qg_2, if_neg qg_4]; exact nofun)
  refine x_getM (pc2 := 25) (f := 404) (k2 := 6) (v9 := sg) C (by assumption) kf_4_33 dX4_makeFrom_22 rfl rfl rfl qg_4 rfl ?_
  refine x_aload_n (pc2 := 26) C dX4_makeFrom_25 3 rfl rfl rfl ?_
  refine x_getI (pc2 := 29) (f := 304) C (by assumption) kf_4_242 dX4_makeFrom_26 rfl rfl rfl ?_
  refine x_ret (rest := []) (st2 := []) (pc2 := 32) (cu2 := 0) (su2 := 0) (x_cV C (by assumption) (Nat.le_of_ble_eq_true rfl) kmX6_raiseNonce rfl kk_4_55 (tX6_raiseNonce hok (by assumption)) rfl rfl (Nat.le_of_ble_eq_true rfl) ⟨Nat.le_of_ble_eq_true rfl, Nat.le_of_ble_eq_true rfl⟩ ⟨Nat.le_of_ble_eq_true rfl, Nat.le_of_ble_eq_true rfl⟩ dX4_makeFrom_29) rfl rfl rfl rfl ?_
  obtain ⟨Ω_5, hw_5⟩ : ∃ z, z = fX6_raiseNonce Ω_1 sg (xI Ω_1 304 i1 0) := ⟨_, rfl⟩
  refine x_om hw_5 ?_
  refine x_aload_n (pc2 := 33) C dX4_makeFrom_32 2 rfl rfl rfl ?_
  rcases (Decidable.em (xR Ω_5 404 0 = sg)).symm with qg_6 | qg_6
  · exact absurd hf (by rw [fX4_makeFrom, wl_eq hw_1, if_pos qg_2, if_pos qg_4, wl_eq hw_5, if_neg qg_6]; exact nofun)
  refine x_getM (pc2 := 36) (f := 404) (k2 := 6) (v9 := sg) C (by assumption) kf_4_33 dX4_makeFrom_33 rfl rfl rfl qg_6 rfl ?_
  refine x_getR (f := 600) (k2 := 2011) (pc2 := 39) C (by assumption) kf_4_125 dX4_makeFrom_36 rfl rfl rfl (rti_i rfl) rfl (fun qd_7 => ?_)
  refine x_aload_n (pc2 := 40) C dX4_makeFrom_39 3 rfl rfl rfl ?_
  refine x_getI (pc2 := 43) (f := 304) C (by assumption) kf_4_242 dX4_makeFrom_40 rfl rfl rfl ?_
  refine x_ret (rest := []) (st2 := [_]) (pc2 := 46) (cu2 := 0) (su2 := 0) (x_cSN C kmX10_at ke_4_129 (tX10_at hok (by assumption) rfl (by decide)) rfl rfl (Nat.le_of_ble_eq_true rfl) ⟨Nat.le_of_ble_eq_true rfl, Nat.le_of_ble_eq_true rfl⟩ ⟨Nat.le_of_ble_eq_true rfl, Nat.le_of_ble_eq_true rfl⟩ dX4_makeFrom_43) rfl rfl rfl rfl ?_
  refine x_iload_n (pc2 := 47) C dX4_makeFrom_46 1 rfl rfl rfl ?_
  refine x_icmp_lt (tgt := 54) (pc2 := 50) C dX4_makeFrom_47 (by decide) rfl (fun qc_8 => ?_) (fun qc_8 => ?_)
  · refine x_iconst (pc2 := 55) (v := 0) C dX4_makeFrom_54 rfl rfl ?_
    refine x_istore (pc2 := 57) (lv2 := [(5, _), (4, _), (3, _), (0, _), (1, _), (2, _)]) C dX4_makeFrom_55 (by decide) rfl rfl ?_
    refine x_aload_n (pc2 := 58) C dX4_makeFrom_57 4 rfl rfl rfl ?_
    refine x_iload (pc2 := 60) C dX4_makeFrom_58 0 rfl rfl ?_
    refine x_if_eq (tgt := 78) (pc2 := 63) C dX4_makeFrom_60 (by decide) rfl (fun qc_9 => ?_) (fun qc_9 => absurd qc_9 (by decide +kernel))
    refine x_iconst (pc2 := 79) (v := 0) C dX4_makeFrom_78 rfl rfl ?_
    refine x_ret (rest := []) (st2 := []) (pc2 := 82) (cu2 := 0) (su2 := 0) (x_cV C (by assumption) (Nat.le_of_ble_eq_true rfl) kmX3_push rfl kk_4_255 (tX3_push hok (by assumption)) rfl rfl (Nat.le_of_ble_eq_true rfl) ⟨Nat.le_of_ble_eq_true rfl, Nat.le_of_ble_eq_true rfl⟩ ⟨Nat.le_of_ble_eq_true rfl, Nat.le_of_ble_eq_true rfl⟩ dX4_makeFrom_79) rfl rfl rfl rfl ?_
    obtain ⟨Ω_10, hw_10⟩ : ∃ z, z = fX3_push Ω_5 i1 (0 : Int32) := ⟨_, rfl⟩
    refine x_om hw_10 ?_
    rw [fX4_makeFrom, wl_eq hw_1, if_pos qg_2, if_pos qg_4, wl_eq hw_5, if_pos qg_6, if_pos qc_8, wl_eq hw_10] at hf
    cases hf
    exact x_vreturn C dX4_makeFrom_82 rfl (Nat.le_of_ble_eq_true rfl) (Nat.le_of_ble_eq_true rfl) rfl rfl
  · refine x_iconst (pc2 := 51) (v := 1) C dX4_makeFrom_50 rfl rfl ?_
    refine x_goto (tgt := 55) C dX4_makeFrom_51 (by decide) ?_
    refine x_istore (pc2 := 57) (lv2 := [(5, _), (4, _), (3, _), (0, _), (1, _), (2, _)]) C dX4_makeFrom_55 (by decide) rfl rfl ?_
    refine x_aload_n (pc2 := 58) C dX4_makeFrom_57 4 rfl rfl rfl ?_
    refine x_iload (pc2 := 60) C dX4_makeFrom_58 0 rfl rfl ?_
    refine x_if_eq (tgt := 78) (pc2 := 63) C dX4_makeFrom_60 (by decide) rfl (fun qc_11 => absurd qc_11 (by decide +kernel)) (fun qc_11 => ?_)
    refine x_aload_n (pc2 := 64) C dX4_makeFrom_63 3 rfl rfl rfl ?_
    refine x_aload_n (pc2 := 65) C dX4_makeFrom_64 4 rfl rfl rfl ?_
    refine x_getI (pc2 := 68) (f := 304) C (by assumption) kf_4_242 dX4_makeFrom_65 rfl rfl rfl ?_
    refine x_iload (pc2 := 70) C dX4_makeFrom_68 1 rfl rfl ?_
    refine x_iload_n (pc2 := 71) C dX4_makeFrom_70 5 rfl rfl rfl ?_
    refine x_iload_n (pc2 := 72) C dX4_makeFrom_71 2 rfl rfl rfl ?_
    rcases hq_12 : fX4_found Ω_5 b sg (xI Ω_5 304 i1 0) (sAt Ω_1 2012 sg (xI Ω_1 304 i1 0)) x2 ((fX3_take Ω i1).1) with _ | r_12
    · exact absurd hf (by rw [fX4_makeFrom, wl_eq hw_1, if_pos qg_2, if_pos qg_4, wl_eq hw_5, if_pos qg_6, if_neg qc_8, hq_12, Option.bind_none]; exact nofun)
    refine x_ret (rest := [_]) (st2 := [_, _]) (pc2 := 75) (cu2 := 0) (su2 := 0) (x_cV C (by assumption) (Nat.le_of_ble_eq_true rfl) kmX4_found rfl kk_4_91 (tX4_found hok (by assumption) (by assumption) (by assumption)  hq_12) rfl rfl (Nat.le_of_ble_eq_true rfl) ⟨Nat.le_of_ble_eq_true rfl, Nat.le_of_ble_eq_true rfl⟩ ⟨Nat.le_of_ble_eq_true rfl, Nat.le_of_ble_eq_true rfl⟩ dX4_makeFrom_72) rfl rfl rfl rfl ?_
    refine x_goto (tgt := 79) C dX4_makeFrom_75 (by decide) ?_
    refine x_ret (rest := []) (st2 := []) (pc2 := 82) (cu2 := 0) (su2 := 0) (x_cV C (by assumption) (Nat.le_of_ble_eq_true rfl) kmX3_push rfl kk_4_255 (tX3_push hok (by assumption)) rfl rfl (Nat.le_of_ble_eq_true rfl) ⟨Nat.le_of_ble_eq_true rfl, Nat.le_of_ble_eq_true rfl⟩ ⟨Nat.le_of_ble_eq_true rfl, Nat.le_of_ble_eq_true rfl⟩ dX4_makeFrom_79) rfl rfl rfl rfl ?_
    obtain ⟨Ω_13, hw_13⟩ : ∃ z, z = fX3_push r_12.2 i1 r_12.1 := ⟨_, rfl⟩
    refine x_om hw_13 ?_
    rw [fX4_makeFrom, wl_eq hw_1, if_pos qg_2, if_pos qg_4, wl_eq hw_5, if_pos qg_6, if_neg qc_8, hq_12, Option.bind_some, wl_eq hw_13] at hf
    cases hf
    exact x_vreturn C dX4_makeFrom_82 rfl (Nat.le_of_ble_eq_true rfl) (Nat.le_of_ble_eq_true rfl) rfl rfl
def fX4_settleGas (Ω : XO) (b : Nat) (sg : Nat) (i1 : Nat) (x2 : Int32) (x3 : Int32) : Option (XO) := (wl (uI Ω 407 0 0 (x3 - (if (x3 / (5 : Int32)) < (xI Ω 406 0 0) then (x3 / (5 : Int32)) else (xI Ω 406 0 0)))) (fun Ω_1 => (if xR Ω_1 404 0 = sg then (wl (fX6_gain Ω_1 sg (xI Ω_1 701 i1 0) (((xI Ω_1 706 i1 0) - (xI Ω_1 407 0 0)) * x2)) (fun Ω_3 => (if xR Ω_3 404 0 = sg then (if xR Ω_3 403 0 = b then (wl (uI Ω_3 604 sg 0 ((xI Ω_3 604 sg 0) + ((xI Ω_3 407 0 0) * (xI Ω_3 5 b 0)))) (fun Ω_6 => (if xR Ω_6 404 0 = sg then (if xR Ω_6 403 0 = b then (if xR Ω_6 403 0 = b then (wl (fX6_gain Ω_6 sg (xI Ω_6 3 b 0) ((xI Ω_6 407 0 0) * (x2 - (xI Ω_6 5 b 0)))) (fun Ω_10 => (some Ω_10))) else none) else none) else none))) else none) else none))) else none)))
set_option maxRecDepth 20000 in
theorem tX4_settleGas {G : XG} (hok : XK G) {b : Nat} {sg : Nat} {i1 : Nat} {x2 : Int32} {x3 : Int32} {Ω : XO} (hd0 : dm G 4 0) (hd1 : dm G 7 i1) (db : dm G 0 b) (ds : dm G 6 sg)  {r : XO} (hf : fX4_settleGas Ω b sg i1 x2 x3 = some r) : XM G yX4_settleGas cX4_settleGas 4 none (RM 1 0) [.ref (ad G 4 0), .ref (ad G 7 i1), .int x2, .int x3] Ω (.inl none) (r) := by
  refine x_start (lv := [(0, .ref (ad G 4 0)), (1, .ref (ad G 7 i1)), (2, .int x2), (3, .int x3)]) (own := RX4) hok (by decide +kernel) rfl (Nat.le_of_ble_eq_true rfl) rfl (fun B C => ?_)
  refine x_aload_n (pc2 := 1) C dX4_settleGas_0 0 rfl rfl rfl ?_
  refine x_iload_n (pc2 := 2) C dX4_settleGas_1 3 rfl rfl rfl ?_
  refine x_aload_n (pc2 := 3) C dX4_settleGas_2 0 rfl rfl rfl ?_
  refine x_getI (pc2 := 6) (f := 406) C (by assumption) kf_4_67 dX4_settleGas_3 rfl rfl rfl ?_
  refine x_iload_n (pc2 := 7) C dX4_settleGas_6 3 rfl rfl rfl ?_
  refine x_iconst (pc2 := 8) (v := 5) C dX4_settleGas_7 rfl rfl ?_
  refine x_idiv (pc2 := 9) C dX4_settleGas_8 (by decide +kernel) rfl ?_
  refine x_mmin (pc2 := 12) C kmath_4_106 kms_min kmi kmc_min ⟨Nat.le_of_ble_eq_true rfl, Nat.le_of_ble_eq_true rfl⟩ (Nat.le_of_ble_eq_true rfl) (Nat.le_of_ble_eq_true rfl) dX4_settleGas_9 rfl ?_
  refine x_isub (pc2 := 13) C dX4_settleGas_12 rfl ?_
  refine x_putI (pc2 := 16) (f := 407) C (by assumption) kf_4_112 dX4_settleGas_13 rfl rfl rfl rfl rfl ?_
  obtain ⟨Ω_1, hw_1⟩ : ∃ z, z = uI Ω 407 0 0 (x3 - (if (x3 / (5 : Int32)) < (xI Ω 406 0 0) then (x3 / (5 : Int32)) else (xI Ω 406 0 0))) := ⟨_, rfl⟩
  refine x_om hw_1 ?_
  refine x_aload_n (pc2 := 17) C dX4_settleGas_16 0 rfl rfl rfl ?_
  rcases (Decidable.em (xR Ω_1 404 0 = sg)).symm with qg_2 | qg_2
  · exact absurd hf (by rw [fX4_settleGas, wl_eq hw_1, if_neg qg_2]; exact nofun)
  refine x_getM (pc2 := 20) (f := 404) (k2 := 6) (v9 := sg) C (by assumption) kf_4_33 dX4_settleGas_17 rfl rfl rfl qg_2 rfl ?_
  refine x_aload_n (pc2 := 21) C dX4_settleGas_20 1 rfl rfl rfl ?_
  refine x_getI (pc2 := 24) (f := 701) C (by assumption) kf_4_52 dX4_settleGas_21 rfl rfl rfl ?_
  refine x_aload_n (pc2 := 25) C dX4_settleGas_24 1 rfl rfl rfl ?_
  refine x_getI (pc2 := 28) (f := 706) C (by assumption) kf_4_60 dX4_settleGas_25 rfl rfl rfl ?_
  refine x_aload_n (pc2 := 29) C dX4_settleGas_28 0 rfl rfl rfl ?_
  refine x_getI (pc2 := 32) (f := 407) C (by assumption) kf_4_112 dX4_settleGas_29 rfl rfl rfl ?_
  refine x_isub (pc2 := 33) C dX4_settleGas_32 rfl ?_
  refine x_iload_n (pc2 := 34) C dX4_settleGas_33 2 rfl rfl rfl ?_
  refine x_imul (pc2 := 35) C dX4_settleGas_34 rfl ?_
  refine x_ret (rest := []) (st2 := []) (pc2 := 38) (cu2 := 0) (su2 := 0) (x_cV C (by assumption) (Nat.le_of_ble_eq_true rfl) kmX6_gain rfl kk_4_63 (tX6_gain hok (by assumption)) rfl rfl (Nat.le_of_ble_eq_true rfl) ⟨Nat.le_of_ble_eq_true rfl, Nat.le_of_ble_eq_true rfl⟩ ⟨Nat.le_of_ble_eq_true rfl, Nat.le_of_ble_eq_true rfl⟩ dX4_settleGas_35) rfl rfl rfl rfl ?_
  obtain ⟨Ω_3, hw_3⟩ : ∃ z, z = fX6_gain Ω_1 sg (xI Ω_1 701 i1 0) (((xI Ω_1 706 i1 0) - (xI Ω_1 407 0 0)) * x2) := ⟨_, rfl⟩
  refine x_om hw_3 ?_
  refine x_aload_n (pc2 := 39) C dX4_settleGas_38 0 rfl rfl rfl ?_
  rcases (Decidable.em (xR Ω_3 404 0 = sg)).symm with qg_4 | qg_4
  · exact absurd hf (by rw [fX4_settleGas, wl_eq hw_1, if_pos qg_2, wl_eq hw_3, if_neg qg_4]; exact nofun)
  refine x_getM (pc2 := 42) (f := 404) (k2 := 6) (v9 := sg) C (by assumption) kf_4_33 dX4_settleGas_39 rfl rfl rfl qg_4 rfl ?_
  refine x_dup (pc2 := 43) C dX4_settleGas_42 rfl rfl ?_
  refine x_getI (pc2 := 46) (f := 604) C (by assumption) kf_4_115 dX4_settleGas_43 rfl rfl rfl ?_
  refine x_aload_n (pc2 := 47) C dX4_settleGas_46 0 rfl rfl rfl ?_
  refine x_getI (pc2 := 50) (f := 407) C (by assumption) kf_4_112 dX4_settleGas_47 rfl rfl rfl ?_
  refine x_aload_n (pc2 := 51) C dX4_settleGas_50 0 rfl rfl rfl ?_
  rcases (Decidable.em (xR Ω_3 403 0 = b)).symm with qg_5 | qg_5
  · exact absurd hf (by rw [fX4_settleGas, wl_eq hw_1, if_pos qg_2, wl_eq hw_3, if_pos qg_4, if_neg qg_5]; exact nofun)
  refine x_getM (pc2 := 54) (f := 403) (k2 := 0) (v9 := b) C (by assumption) kf_4_26 dX4_settleGas_51 rfl rfl rfl qg_5 rfl ?_
  refine x_getI (pc2 := 57) (f := 5) C (by assumption) kf_4_43 dX4_settleGas_54 rfl rfl rfl ?_
  refine x_imul (pc2 := 58) C dX4_settleGas_57 rfl ?_
  refine x_iadd (pc2 := 59) C dX4_settleGas_58 rfl ?_
  refine x_putI (pc2 := 62) (f := 604) C (by assumption) kf_4_115 dX4_settleGas_59 rfl rfl rfl rfl rfl ?_
  obtain ⟨Ω_6, hw_6⟩ : ∃ z, z = uI Ω_3 604 sg 0 ((xI Ω_3 604 sg 0) + ((xI Ω_3 407 0 0) * (xI Ω_3 5 b 0))) := ⟨_, rfl⟩
  refine x_om hw_6 ?_
  refine x_aload_n (pc2 := 63) C dX4_settleGas_62 0 rfl rfl rfl ?_
  rcases (Decidable.em (xR Ω_6 404 0 = sg)).symm with qg_7 | qg_7
  · exact absurd hf (by rw [fX4_settleGas, wl_eq hw_1, if_pos qg_2, wl_eq hw_3, if_pos qg_4, if_pos qg_5, wl_eq hw_6, if_neg qg_7]; exact nofun)
  refine x_getM (pc2 := 66) (f := 404) (k2 := 6) (v9 := sg) C (by assumption) kf_4_33 dX4_settleGas_63 rfl rfl rfl qg_7 rfl ?_
  refine x_aload_n (pc2 := 67) C dX4_settleGas_66 0 rfl rfl rfl ?_
  rcases (Decidable.em (xR Ω_6 403 0 = b)).symm with qg_8 | qg_8
  · exact absurd hf (by rw [fX4_settleGas, wl_eq hw_1, if_pos qg_2, wl_eq hw_3, if_pos qg_4, if_pos qg_5, wl_eq hw_6, if_pos qg_7, if_neg qg_8]; exact nofun)
  refine x_getM (pc2 := 70) (f := 403) (k2 := 0) (v9 := b) C (by assumption) kf_4_26 dX4_settleGas_67 rfl rfl rfl qg_8 rfl ?_
  refine x_getI (pc2 := 73) (f := 3) C (by assumption) kf_4_118 dX4_settleGas_70 rfl rfl rfl ?_
  refine x_aload_n (pc2 := 74) C dX4_settleGas_73 0 rfl rfl rfl ?_
  refine x_getI (pc2 := 77) (f := 407) C (by assumption) kf_4_112 dX4_settleGas_74 rfl rfl rfl ?_
  refine x_iload_n (pc2 := 78) C dX4_settleGas_77 2 rfl rfl rfl ?_
  refine x_aload_n (pc2 := 79) C dX4_settleGas_78 0 rfl rfl rfl ?_
  rcases (Decidable.em (xR Ω_6 403 0 = b)).symm with qg_9 | qg_9
  · exact absurd hf (by rw [fX4_settleGas, wl_eq hw_1, if_pos qg_2, wl_eq hw_3, if_pos qg_4, if_pos qg_5, wl_eq hw_6, if_pos qg_7, if_pos qg_8, if_neg qg_9]; exact nofun)
  refine x_getM (pc2 := 82) (f := 403) (k2 := 0) (v9 := b) C (by assumption) kf_4_26 dX4_settleGas_79 rfl rfl rfl qg_9 rfl ?_
  refine x_getI (pc2 := 85) (f := 5) C (by assumption) kf_4_43 dX4_settleGas_82 rfl rfl rfl ?_
  refine x_isub (pc2 := 86) C dX4_settleGas_85 rfl ?_
  refine x_imul (pc2 := 87) C dX4_settleGas_86 rfl ?_
  refine x_ret (rest := []) (st2 := []) (pc2 := 90) (cu2 := 0) (su2 := 0) (x_cV C (by assumption) (Nat.le_of_ble_eq_true rfl) kmX6_gain rfl kk_4_63 (tX6_gain hok (by assumption)) rfl rfl (Nat.le_of_ble_eq_true rfl) ⟨Nat.le_of_ble_eq_true rfl, Nat.le_of_ble_eq_true rfl⟩ ⟨Nat.le_of_ble_eq_true rfl, Nat.le_of_ble_eq_true rfl⟩ dX4_settleGas_87) rfl rfl rfl rfl ?_
  obtain ⟨Ω_10, hw_10⟩ : ∃ z, z = fX6_gain Ω_6 sg (xI Ω_6 3 b 0) ((xI Ω_6 407 0 0) * (x2 - (xI Ω_6 5 b 0))) := ⟨_, rfl⟩
  refine x_om hw_10 ?_
  rw [fX4_settleGas, wl_eq hw_1, if_pos qg_2, wl_eq hw_3, if_pos qg_4, if_pos qg_5, wl_eq hw_6, if_pos qg_7, if_pos qg_8, if_pos qg_9, wl_eq hw_10] at hf
  cases hf
  exact x_vreturn C dX4_settleGas_90 rfl (Nat.le_of_ble_eq_true rfl) (Nat.le_of_ble_eq_true rfl) rfl rfl
def fX4_callFrom (Ω : XO) (b : Nat) (sg : Nat) (dl : XO → Int32 → Int32 → Int32 → Int32 → Int32 → Int32 → Option (Int32 × XO)) (x1 : Int32) (i2 : Nat) : Option (XO) := (wl ((fX3_take Ω i2).2) (fun Ω_1 => (wl ((fX3_take Ω_1 i2).2) (fun Ω_2 => (wl ((fX3_take Ω_2 i2).2) (fun Ω_3 => (if x1 < (1 : Int32) then (wl (fX3_push Ω_3 i2 (0 : Int32)) (fun Ω_5 => (some Ω_5))) else (if (4 : Int32) ≤ x1 then (wl (fX3_push Ω_3 i2 (0 : Int32)) (fun Ω_7 => (some Ω_7))) else (if xR Ω_3 404 0 = sg then (if ((fX3_take Ω_1 i2).1) ≤ (sAt Ω_3 2011 sg (xI Ω_3 304 i2 0)) then (dl Ω_3 (x1 + (1 : Int32)) (xI Ω_3 304 i2 0) (((fX3_take Ω_2 i2).1) - ((fX3_take Ω_2 i2).1) / (16 : Int32) * (16 : Int32)) ((fX3_take Ω_1 i2).1) ((fX3_take Ω i2).1) ((xI Ω_3 310 i2 0) - ((xI Ω_3 310 i2 0) / (4 : Int32)))).bind (fun r_11 => (if inB x1 4 then (wl (uI r_11.2 310 i2 0 ((xI r_11.2 310 i2 0) + ((xI r_11.2 310 x1.toNatClampNeg 0) - ((xI Ω_3 310 i2 0) - ((xI Ω_3 310 i2 0) / (4 : Int32)))))) (fun Ω_15 => (if r_11.1 = 0 then (wl (fX3_push Ω_15 i2 (0 : Int32)) (fun Ω_17 => (some Ω_17))) else (wl (fX3_push Ω_15 i2 (1 : Int32)) (fun Ω_18 => (some Ω_18)))))) else none)) else (wl (fX3_push Ω_3 i2 (0 : Int32)) (fun Ω_19 => (some Ω_19)))) else none)))))))))
set_option maxRecDepth 20000 in
theorem tX4_callFrom_0 {G : XG} (hok : XK G) {b : Nat} {sg : Nat} {dl : XO → Int32 → Int32 → Int32 → Int32 → Int32 → Int32 → Option (Int32 × XO)} {x1 : Int32} {i2 : Nat} {Ω : XO} (hd0 : dm G 4 0) (hd2 : dm G 3 i2) (db : dm G 0 b) (ds : dm G 6 sg) (hdl : ∀ {Ω : XO} {x1 x2 x3 x4 x5 x6 : Int32} {r : Int32 × XO}, dl Ω x1 x2 x3 x4 x5 x6 = some r → XM G yX4_deliver cX4_deliver 10 ((some FieldType.boolean)) (RM 0 0) [.ref (ad G 4 0), .int x1, .int x2, .int x3, .int x4, .int x5, .int x6] Ω (.inl (some (.int r.1))) r.2) {r : XO} (hf : fX4_callFrom Ω b sg dl x1 i2 = some r) : XM G yX4_callFrom cX4_callFrom 8 none (RM 1 0) [.ref (ad G 4 0), .int x1, .ref (ad G 3 i2)] Ω (.inl none) (r) := by
  refine x_start (lv := [(0, .ref (ad G 4 0)), (1, .int x1), (2, .ref (ad G 3 i2))]) (own := RX4) hok (by decide +kernel) rfl (Nat.le_of_ble_eq_true rfl) rfl (fun B C => ?_)
  refine x_aload_n (pc2 := 1) C dX4_callFrom_0 2 rfl rfl rfl ?_
  refine x_ret (rest := []) (st2 := [_]) (pc2 := 4) (cu2 := 0) (su2 := 0) (x_cV C (by assumption) (Nat.le_of_ble_eq_true rfl) kmX3_take rfl kk_4_249 (tX3_take hok (by assumption)) rfl rfl (Nat.le_of_ble_eq_true rfl) ⟨Nat.le_of_ble_eq_true rfl, Nat.le_of_ble_eq_true rfl⟩ ⟨Nat.le_of_ble_eq_true rfl, Nat.le_of_ble_eq_true rfl⟩ dX4_callFrom_1) rfl rfl rfl rfl ?_
  obtain ⟨Ω_1, hw_1⟩ : ∃ z, z = (fX3_take Ω i2).2 := ⟨_, rfl⟩
  refine x_om hw_1 ?_
  refine x_istore_n (pc2 := 5) (lv2 := [(3, _), (0, _), (1, _), (2, _)]) C dX4_callFrom_4 rfl (by decide) rfl rfl ?_
  refine x_aload_n (pc2 := 6) C dX4_callFrom_5 3 rfl rfl rfl ?_
  refine x_ret (rest := []) (st2 := [_]) (pc2 := 9) (cu2 := 0) (su2 := 0) (x_cV C (by assumption) (Nat.le_of_ble_eq_true rfl) kmX3_take rfl kk_4_249 (tX3_take hok (by assumption)) rfl rfl (Nat.le_of_ble_eq_true rfl) ⟨Nat.le_of_ble_eq_true rfl, Nat.le_of_ble_eq_true rfl⟩ ⟨Nat.le_of_ble_eq_true rfl, Nat.le_of_ble_eq_true rfl⟩ dX4_callFrom_6) rfl rfl rfl rfl ?_
  obtain ⟨Ω_2, hw_2⟩ : ∃ z, z = (fX3_take Ω_1 i2).2 := ⟨_, rfl⟩
  refine x_om hw_2 ?_
  refine x_istore (pc2 := 11) (lv2 := [(4, _), (3, _), (0, _), (1, _), (2, _)]) C dX4_callFrom_9 (by decide) rfl rfl ?_
  refine x_aload_n (pc2 := 12) C dX4_callFrom_11 4 rfl rfl rfl ?_
  refine x_ret (rest := []) (st2 := [_]) (pc2 := 15) (cu2 := 0) (su2 := 0) (x_cV C (by assumption) (Nat.le_of_ble_eq_true rfl) kmX3_take rfl kk_4_249 (tX3_take hok (by assumption)) rfl rfl (Nat.le_of_ble_eq_true rfl) ⟨Nat.le_of_ble_eq_true rfl, Nat.le_of_ble_eq_true rfl⟩ ⟨Nat.le_of_ble_eq_true rfl, Nat.le_of_ble_eq_true rfl⟩ dX4_callFrom_12) rfl rfl rfl rfl ?_
  obtain ⟨Ω_3, hw_3⟩ : ∃ z, z = (fX3_take Ω_2 i2).2 := ⟨_, rfl⟩
  refine x_om hw_3 ?_
  refine x_bipush (pc2 := 17) (v := 16) C dX4_callFrom_15 rfl rfl ?_
  refine x_irem (pc2 := 18) C dX4_callFrom_17 (by decide +kernel) rfl ?_
  refine x_istore (pc2 := 20) (lv2 := [(5, _), (4, _), (3, _), (0, _), (1, _), (2, _)]) C dX4_callFrom_18 (by decide) rfl rfl ?_
  refine x_iload_n (pc2 := 21) C dX4_callFrom_20 4 rfl rfl rfl ?_
  refine x_iconst (pc2 := 22) (v := 1) C dX4_callFrom_21 rfl rfl ?_
  refine x_icmp_lt (tgt := 49) (pc2 := 25) C dX4_callFrom_22 (by decide) rfl (fun qc_4 => ?_) (fun qc_4 => ?_)
  · refine x_aload_n (pc2 := 50) C dX4_callFrom_49 5 rfl rfl rfl ?_
    refine x_iconst (pc2 := 51) (v := 0) C dX4_callFrom_50 rfl rfl ?_
    refine x_ret (rest := []) (st2 := []) (pc2 := 54) (cu2 := 0) (su2 := 0) (x_cV C (by assumption) (Nat.le_of_ble_eq_true rfl) kmX3_push rfl kk_4_255 (tX3_push hok (by assumption)) rfl rfl (Nat.le_of_ble_eq_true rfl) ⟨Nat.le_of_ble_eq_true rfl, Nat.le_of_ble_eq_true rfl⟩ ⟨Nat.le_of_ble_eq_true rfl, Nat.le_of_ble_eq_true rfl⟩ dX4_callFrom_51) rfl rfl rfl rfl ?_
    obtain ⟨Ω_5, hw_5⟩ : ∃ z, z = fX3_push Ω_3 i2 (0 : Int32) := ⟨_, rfl⟩
    refine x_om hw_5 ?_
    rw [fX4_callFrom, wl_eq hw_1, wl_eq hw_2, wl_eq hw_3, if_pos qc_4, wl_eq hw_5] at hf
    cases hf
    exact x_vreturn C dX4_callFrom_54 rfl (Nat.le_of_ble_eq_true rfl) (Nat.le_of_ble_eq_true rfl) rfl rfl
  · refine x_iload_n (pc2 := 26) C dX4_callFrom_25 4 rfl rfl rfl ?_
    refine x_iconst (pc2 := 27) (v := 4) C dX4_callFrom_26 rfl rfl ?_
    refine x_icmp_ge (tgt := 49) (pc2 := 30) C dX4_callFrom_27 (by decide) rfl (fun qc_6 => ?_) (fun qc_6 => ?_)
    · refine x_aload_n (pc2 := 50) C dX4_callFrom_49 5 rfl rfl rfl ?_
      refine x_iconst (pc2 := 51) (v := 0) C dX4_callFrom_50 rfl rfl ?_
      refine x_ret (rest := []) (st2 := []) (pc2 := 54) (cu2 := 0) (su2 := 0) (x_cV C (by assumption) (Nat.le_of_ble_eq_true rfl) kmX3_push rfl kk_4_255 (tX3_push hok (by assumption)) rfl rfl (Nat.le_of_ble_eq_true rfl) ⟨Nat.le_of_ble_eq_true rfl, Nat.le_of_ble_eq_true rfl⟩ ⟨Nat.le_of_ble_eq_true rfl, Nat.le_of_ble_eq_true rfl⟩ dX4_callFrom_51) rfl rfl rfl rfl ?_
      obtain ⟨Ω_7, hw_7⟩ : ∃ z, z = fX3_push Ω_3 i2 (0 : Int32) := ⟨_, rfl⟩
      refine x_om hw_7 ?_
      rw [fX4_callFrom, wl_eq hw_1, wl_eq hw_2, wl_eq hw_3, if_neg qc_4, if_pos qc_6, wl_eq hw_7] at hf
      cases hf
      exact x_vreturn C dX4_callFrom_54 rfl (Nat.le_of_ble_eq_true rfl) (Nat.le_of_ble_eq_true rfl) rfl rfl
    · refine x_aload_n (pc2 := 31) C dX4_callFrom_30 3 rfl rfl rfl ?_
      rcases (Decidable.em (xR Ω_3 404 0 = sg)).symm with qg_8 | qg_8
      · exact absurd hf (by rw [fX4_callFrom, wl_eq hw_1, wl_eq hw_2, wl_eq hw_3, if_neg qc_4, if_neg qc_6, if_neg qg_8]; exact nofun)
      refine x_getM (pc2 := 34) (f := 404) (k2 := 6) (v9 := sg) C (by assumption) kf_4_33 dX4_callFrom_31 rfl rfl rfl qg_8 rfl ?_
      refine x_getR (f := 600) (k2 := 2011) (pc2 := 37) C (by assumption) kf_4_125 dX4_callFrom_34 rfl rfl rfl (rti_i rfl) rfl (fun qd_9 => ?_)
      refine x_aload_n (pc2 := 38) C dX4_callFrom_37 5 rfl rfl rfl ?_
      refine x_getI (pc2 := 41) (f := 304) C (by assumption) kf_4_242 dX4_callFrom_38 rfl rfl rfl ?_
      refine x_ret (rest := []) (st2 := [_]) (pc2 := 44) (cu2 := 0) (su2 := 0) (x_cSN C kmX10_at ke_4_129 (tX10_at hok (by assumption) rfl (by decide)) rfl rfl (Nat.le_of_ble_eq_true rfl) ⟨Nat.le_of_ble_eq_true rfl, Nat.le_of_ble_eq_true rfl⟩ ⟨Nat.le_of_ble_eq_true rfl, Nat.le_of_ble_eq_true rfl⟩ dX4_callFrom_41) rfl rfl rfl rfl ?_
      refine x_iload (pc2 := 46) C dX4_callFrom_44 1 rfl rfl ?_
      refine x_icmp_ge (tgt := 55) (pc2 := 49) C dX4_callFrom_46 (by decide) rfl (fun qc_10 => ?_) (fun qc_10 => ?_)
      · refine x_aload_n (pc2 := 56) C dX4_callFrom_55 5 rfl rfl rfl ?_
        refine x_getI (pc2 := 59) (f := 310) C (by assumption) kf_4_70 dX4_callFrom_56 rfl rfl rfl ?_
        refine x_aload_n (pc2 := 60) C dX4_callFrom_59 5 rfl rfl rfl ?_
        refine x_getI (pc2 := 63) (f := 310) C (by assumption) kf_4_70 dX4_callFrom_60 rfl rfl rfl ?_
        refine x_iconst (pc2 := 64) (v := 4) C dX4_callFrom_63 rfl rfl ?_
        refine x_idiv (pc2 := 65) C dX4_callFrom_64 (by decide +kernel) rfl ?_
        refine x_isub (pc2 := 66) C dX4_callFrom_65 rfl ?_
        refine x_istore (pc2 := 68) (lv2 := [(6, _), (5, _), (4, _), (3, _), (0, _), (1, _), (2, _)]) C dX4_callFrom_66 (by decide) rfl rfl ?_
        refine x_aload_n (pc2 := 69) C dX4_callFrom_68 4 rfl rfl rfl ?_
        refine x_iload_n (pc2 := 70) C dX4_callFrom_69 5 rfl rfl rfl ?_
        refine x_iconst (pc2 := 71) (v := 1) C dX4_callFrom_70 rfl rfl ?_
        refine x_iadd (pc2 := 72) C dX4_callFrom_71 rfl ?_
        refine x_aload_n (pc2 := 73) C dX4_callFrom_72 6 rfl rfl rfl ?_
        refine x_getI (pc2 := 76) (f := 304) C (by assumption) kf_4_242 dX4_callFrom_73 rfl rfl rfl ?_
        refine x_iload (pc2 := 78) C dX4_callFrom_76 1 rfl rfl ?_
        refine x_iload (pc2 := 80) C dX4_callFrom_78 2 rfl rfl ?_
        refine x_iload_n (pc2 := 81) C dX4_callFrom_80 3 rfl rfl rfl ?_
        refine x_iload (pc2 := 83) C dX4_callFrom_81 0 rfl rfl ?_
        rcases hq_11 : dl Ω_3 (x1 + (1 : Int32)) (xI Ω_3 304 i2 0) (((fX3_take Ω_2 i2).1) - ((fX3_take Ω_2 i2).1) / (16 : Int32) * (16 : Int32)) ((fX3_take Ω_1 i2).1) ((fX3_take Ω i2).1) ((xI Ω_3 310 i2 0) - ((xI Ω_3 310 i2 0) / (4 : Int32))) with _ | r_11
        · exact absurd hf (by rw [fX4_callFrom, wl_eq hw_1, wl_eq hw_2, wl_eq hw_3, if_neg qc_4, if_neg qc_6, if_pos qg_8, if_pos qc_10, hq_11, Option.bind_none]; exact nofun)
        refine x_ret (rest := []) (st2 := [_]) (pc2 := 86) (cu2 := 0) (su2 := 0) (x_cV C (by assumption) (Nat.le_of_ble_eq_true rfl) kmX4_deliver rfl kk_4_98 (hdl hq_11) rfl rfl (Nat.le_of_ble_eq_true rfl) ⟨Nat.le_of_ble_eq_true rfl, Nat.le_of_ble_eq_true rfl⟩ ⟨Nat.le_of_ble_eq_true rfl, Nat.le_of_ble_eq_true rfl⟩ dX4_callFrom_83) rfl rfl rfl rfl ?_
        refine x_istore (pc2 := 88) (lv2 := [(7, _), (6, _), (5, _), (4, _), (3, _), (0, _), (1, _), (2, _)]) C dX4_callFrom_86 (by decide) rfl rfl ?_
        refine x_aload_n (pc2 := 89) C dX4_callFrom_88 7 rfl rfl rfl ?_
        refine x_dup (pc2 := 90) C dX4_callFrom_89 rfl rfl ?_
        refine x_getI (pc2 := 93) (f := 310) C (by assumption) kf_4_70 dX4_callFrom_90 rfl rfl rfl ?_
        refine x_aload_n (pc2 := 94) C dX4_callFrom_93 5 rfl rfl rfl ?_
        refine x_getR (f := 401) (k2 := 2007) (pc2 := 97) C (by assumption) kf_4_11 dX4_callFrom_94 rfl rfl rfl (rti_i rfl) rfl (fun qd_12 => ?_)
        refine x_iload_n (pc2 := 98) C dX4_callFrom_97 6 rfl rfl rfl ?_
        rcases (Decidable.em (inB x1 4)).symm with qg_13 | qg_13
        · exact absurd hf (by rw [fX4_callFrom, wl_eq hw_1, wl_eq hw_2, wl_eq hw_3, if_neg qc_4, if_neg qc_6, if_pos qg_8, if_pos qc_10, hq_11, Option.bind_some, if_neg qg_13]; exact nofun)
        refine x_aald (k2 := 3) (pc2 := 99) C (by assumption) dX4_callFrom_98 rfl rfl (inB_in qg_13) rfl (eli_2007 _ _) rfl (fun qd_14 => ?_)
        refine x_getI (pc2 := 102) (f := 310) C (by assumption) kf_4_70 dX4_callFrom_99 rfl rfl rfl ?_
        refine x_iload (pc2 := 104) C dX4_callFrom_102 1 rfl rfl ?_
        refine x_isub (pc2 := 105) C dX4_callFrom_104 rfl ?_
        refine x_iadd (pc2 := 106) C dX4_callFrom_105 rfl ?_
        refine x_putI (pc2 := 109) (f := 310) C (by assumption) kf_4_70 dX4_callFrom_106 rfl rfl rfl rfl rfl ?_
        obtain ⟨Ω_15, hw_15⟩ : ∃ z, z = uI r_11.2 310 i2 0 ((xI r_11.2 310 i2 0) + ((xI r_11.2 310 x1.toNatClampNeg 0) - ((xI Ω_3 310 i2 0) - ((xI Ω_3 310 i2 0) / (4 : Int32))))) := ⟨_, rfl⟩
        refine x_om hw_15 ?_
        refine x_aload_n (pc2 := 110) C dX4_callFrom_109 7 rfl rfl rfl ?_
        refine x_iload (pc2 := 112) C dX4_callFrom_110 0 rfl rfl ?_
        refine x_if_eq (tgt := 119) (pc2 := 115) C dX4_callFrom_112 (by decide) rfl (fun qc_16 => ?_) (fun qc_16 => ?_)
        · refine x_iconst (pc2 := 120) (v := 0) C dX4_callFrom_119 rfl rfl ?_
          refine x_ret (rest := []) (st2 := []) (pc2 := 123) (cu2 := 0) (su2 := 0) (x_cV C (by assumption) (Nat.le_of_ble_eq_true rfl) kmX3_push rfl kk_4_255 (tX3_push hok (by assumption)) rfl rfl (Nat.le_of_ble_eq_true rfl) ⟨Nat.le_of_ble_eq_true rfl, Nat.le_of_ble_eq_true rfl⟩ ⟨Nat.le_of_ble_eq_true rfl, Nat.le_of_ble_eq_true rfl⟩ dX4_callFrom_120) rfl rfl rfl rfl ?_
          obtain ⟨Ω_17, hw_17⟩ : ∃ z, z = fX3_push Ω_15 i2 (0 : Int32) := ⟨_, rfl⟩
          refine x_om hw_17 ?_
          rw [fX4_callFrom, wl_eq hw_1, wl_eq hw_2, wl_eq hw_3, if_neg qc_4, if_neg qc_6, if_pos qg_8, if_pos qc_10, hq_11, Option.bind_some, if_pos qg_13, wl_eq hw_15, if_pos qc_16, wl_eq hw_17] at hf
          cases hf
          exact x_vreturn C dX4_callFrom_123 rfl (Nat.le_of_ble_eq_true rfl) (Nat.le_of_ble_eq_true rfl) rfl rfl
        · refine x_iconst (pc2 := 116) (v := 1) C dX4_callFrom_115 rfl rfl ?_
          refine x_goto (tgt := 120) C dX4_callFrom_116 (by decide) ?_
          refine x_ret (rest := []) (st2 := []) (pc2 := 123) (cu2 := 0) (su2 := 0) (x_cV C (by assumption) (Nat.le_of_ble_eq_true rfl) kmX3_push rfl kk_4_255 (tX3_push hok (by assumption)) rfl rfl (Nat.le_of_ble_eq_true rfl) ⟨Nat.le_of_ble_eq_true rfl, Nat.le_of_ble_eq_true rfl⟩ ⟨Nat.le_of_ble_eq_true rfl, Nat.le_of_ble_eq_true rfl⟩ dX4_callFrom_120) rfl rfl rfl rfl ?_
          obtain ⟨Ω_18, hw_18⟩ : ∃ z, z = fX3_push Ω_15 i2 (1 : Int32) := ⟨_, rfl⟩
          refine x_om hw_18 ?_
          rw [fX4_callFrom, wl_eq hw_1, wl_eq hw_2, wl_eq hw_3, if_neg qc_4, if_neg qc_6, if_pos qg_8, if_pos qc_10, hq_11, Option.bind_some, if_pos qg_13, wl_eq hw_15, if_neg qc_16, wl_eq hw_18] at hf
          cases hf
          exact x_vreturn C dX4_callFrom_123 rfl (Nat.le_of_ble_eq_true rfl) (Nat.le_of_ble_eq_true rfl) rfl rfl
      · refine x_aload_n (pc2 := 50) C dX4_callFrom_49 5 rfl rfl rfl ?_
        refine x_iconst (pc2 := 51) (v := 0) C dX4_callFrom_50 rfl rfl ?_
        refine x_ret (rest := []) (st2 := []) (pc2 := 54) (cu2 := 0) (su2 := 0) (x_cV C (by assumption) (Nat.le_of_ble_eq_true rfl) kmX3_push rfl kk_4_255 (tX3_push hok (by assumption)) rfl rfl (Nat.le_of_ble_eq_true rfl) ⟨Nat.le_of_ble_eq_true rfl, Nat.le_of_ble_eq_true rfl⟩ ⟨Nat.le_of_ble_eq_true rfl, Nat.le_of_ble_eq_true rfl⟩ dX4_callFrom_51) rfl rfl rfl rfl ?_
        obtain ⟨Ω_19, hw_19⟩ : ∃ z, z = fX3_push Ω_3 i2 (0 : Int32) := ⟨_, rfl⟩
        refine x_om hw_19 ?_
        rw [fX4_callFrom, wl_eq hw_1, wl_eq hw_2, wl_eq hw_3, if_neg qc_4, if_neg qc_6, if_pos qg_8, if_neg qc_10, wl_eq hw_19] at hf
        cases hf
        exact x_vreturn C dX4_callFrom_54 rfl (Nat.le_of_ble_eq_true rfl) (Nat.le_of_ble_eq_true rfl) rfl rfl
def fX4_runProgram_l2 (b : Nat) (sg : Nat) (dl : XO → Int32 → Int32 → Int32 → Int32 → Int32 → Int32 → Option (Int32 × XO)) (y1 : Int32) (y2 : Nat) : Nat → Int32 → XO → Option ((Int32 × XO) ⊕ (Int32 × XO))
  | 0, _, _ => none
  | n + 1, y3, Ω => (if (1000000 : Int32) ≤ y3 then (some (.inr (y3, Ω))) else (if (xI Ω 309 y2 0) < (fX5_lengthOf Ω 0 (xI Ω 308 y2 0)) then (fX4_extraGas Ω b sg y2 (fX5_operationAt Ω 0 (xI Ω 308 y2 0) (xI Ω 309 y2 0)) (fX5_argumentAt Ω 0 (xI Ω 308 y2 0) (xI Ω 309 y2 0))).bind (fun r_6 => (if (fX3_heapAllows Ω y2 (fX5_operationAt Ω 0 (xI Ω 308 y2 0) (xI Ω 309 y2 0))) = 0 then (wl (uI Ω 310 y2 0 (0 : Int32)) (fun Ω_8 => (some (.inl ((0 : Int32), Ω_8))))) else (if ((sTb 1 (fX5_operationAt Ω 0 (xI Ω 308 y2 0) (xI Ω 309 y2 0))) + r_6) ≤ (xI Ω 310 y2 0) then (wl (uI Ω 310 y2 0 ((xI Ω 310 y2 0) - ((sTb 1 (fX5_operationAt Ω 0 (xI Ω 308 y2 0) (xI Ω 309 y2 0))) + r_6))) (fun Ω_10 => (wl (uI Ω_10 309 y2 0 ((xI Ω_10 309 y2 0) + (1 : Int32))) (fun Ω_11 => (if (fX5_operationAt Ω 0 (xI Ω 308 y2 0) (xI Ω 309 y2 0)) < (22 : Int32) then (if (fX5_operationAt Ω 0 (xI Ω 308 y2 0) (xI Ω 309 y2 0)) = (19 : Int32) then (fX4_callFrom Ω_11 b sg dl y1 y2).bind (fun r_19 => fX4_runProgram_l2 b sg dl y1 y2 n (y3 + 1) r_19) else (if (fX5_operationAt Ω 0 (xI Ω 308 y2 0) (xI Ω 309 y2 0)) = (21 : Int32) then (fX4_makeFrom Ω_11 b sg y2 (fX5_argumentAt Ω 0 (xI Ω 308 y2 0) (xI Ω 309 y2 0))).bind (fun r_18 => fX4_runProgram_l2 b sg dl y1 y2 n (y3 + 1) r_18) else (fX4_touchState Ω_11 b sg y2 (fX5_operationAt Ω 0 (xI Ω 308 y2 0) (xI Ω 309 y2 0)) (fX5_argumentAt Ω 0 (xI Ω 308 y2 0) (xI Ω 309 y2 0))).bind (fun r_15 => (if r_15.1 = 0 then (wl (fX3_perform r_15.2 y2 (fX5_operationAt Ω 0 (xI Ω 308 y2 0) (xI Ω 309 y2 0)) (fX5_argumentAt Ω 0 (xI Ω 308 y2 0) (xI Ω 309 y2 0))) (fun Ω_17 => fX4_runProgram_l2 b sg dl y1 y2 n (y3 + 1) Ω_17)) else fX4_runProgram_l2 b sg dl y1 y2 n (y3 + 1) r_15.2)))) else (fX4_finish Ω_11 b sg y2 (fX5_operationAt Ω 0 (xI Ω 308 y2 0) (xI Ω 309 y2 0))).bind (fun r_20 => (if r_20.1 = 0 ∨ r_20.1 = 1 then (some (.inl (r_20.1, r_20.2))) else none))))))) else (wl (uI Ω 310 y2 0 (0 : Int32)) (fun Ω_22 => (some (.inl ((0 : Int32), Ω_22)))))))) else (some (.inl ((1 : Int32), Ω)))))
set_option maxRecDepth 20000 in
theorem lX4_runProgram_l2_0 {G : XG} (hok : XK G) {B : XB} {b : Nat} {sg : Nat} {dl : XO → Int32 → Int32 → Int32 → Int32 → Int32 → Int32 → Option (Int32 × XO)} {y1 : Int32} {y2 : Nat}  (hf0 : dm G 4 0) (hf2 : dm G 3 y2) (db : dm G 0 b) (ds : dm G 6 sg) (hdl : ∀ {Ω : XO} {x1 x2 x3 x4 x5 x6 : Int32} {r : Int32 × XO}, dl Ω x1 x2 x3 x4 x5 x6 = some r → XM G yX4_deliver cX4_deliver 10 ((some FieldType.boolean)) (RM 0 0) [.ref (ad G 4 0), .int x1, .int x2, .int x3, .int x4, .int x5, .int x6] Ω (.inl (some (.int r.1))) r.2) {T : Option Value ⊕ String} {Ω9 : XO} (C : XC G B cX4_runProgram RX4 (RM 3 0) 7 ((some FieldType.boolean)) T Ω9) : ∀ (n : Nat) (y3 : Int32) (Ω : XO) {r : ((Int32 × XO) ⊕ (Int32 × XO))}, fX4_runProgram_l2 b sg dl y1 y2 n y3 Ω = some r → (∀ v, r = .inl v → T = (.inl (some (.int (v.1)))) ∧ Ω9 = v.2) → (∀ q, r = .inr q → (XW G B 7 202 [] [] q.2 0 0)) → XW G B 7 2 [(3, .int (y3)), (0, .ref (ad G 4 (0))), (1, .int (y1)), (2, .ref (ad G 3 (y2)))] [] Ω 0 0 := by
  intro n
  induction n with
  | zero => intro y3 Ω r hf; exact absurd hf (by rw [fX4_runProgram_l2]; exact nofun)
  | succ n ih =>
    intro y3 Ω r hf hk hk2
    refine x_iload_n (pc2 := 3) C dX4_runProgram_2 0 rfl rfl rfl ?_
    refine x_ldc (pc2 := 5) C kc_4_189 dX4_runProgram_3 rfl ?_
    refine x_icmp_ge (tgt := 202) (pc2 := 8) C dX4_runProgram_5 (by decide) rfl (fun qc_1 => ?_) (fun qc_1 => ?_)
    · rw [fX4_runProgram_l2, if_pos qc_1] at hf
      exact x_sub (lv2 := []) C [] rfl (hk2 _ (Option.some.inj hf).symm)
    · refine x_aload_n (pc2 := 9) C dX4_runProgram_8 3 rfl rfl rfl ?_
      refine x_getI (pc2 := 12) (f := 309) C (by assumption) kf_4_190 dX4_runProgram_9 rfl rfl rfl ?_
      refine x_aload_n (pc2 := 13) C dX4_runProgram_12 1 rfl rfl rfl ?_
      refine x_getR (f := 400) (k2 := 5) (pc2 := 16) C (by assumption) kf_4_34 dX4_runProgram_13 rfl rfl rfl (rti_i rfl) rfl (fun qd_2 => ?_)
      refine x_aload_n (pc2 := 17) C dX4_runProgram_16 3 rfl rfl rfl ?_
      refine x_getI (pc2 := 20) (f := 308) C (by assumption) kf_4_193 dX4_runProgram_17 rfl rfl rfl ?_
      refine x_ret (rest := [_]) (st2 := [_, _]) (pc2 := 23) (cu2 := 0) (su2 := 0) (x_cV C (by assumption) (Nat.le_of_ble_eq_true rfl) kmX5_lengthOf rfl kk_4_196 (tX5_lengthOf hok (by assumption)) rfl rfl (Nat.le_of_ble_eq_true rfl) ⟨Nat.le_of_ble_eq_true rfl, Nat.le_of_ble_eq_true rfl⟩ ⟨Nat.le_of_ble_eq_true rfl, Nat.le_of_ble_eq_true rfl⟩ dX4_runProgram_20) rfl rfl rfl rfl ?_
      refine x_icmp_lt (tgt := 28) (pc2 := 26) C dX4_runProgram_23 (by decide) rfl (fun qc_3 => ?_) (fun qc_3 => ?_)
      · refine x_aload_n (pc2 := 29) C dX4_runProgram_28 1 rfl rfl rfl ?_
        refine x_getR (f := 400) (k2 := 5) (pc2 := 32) C (by assumption) kf_4_34 dX4_runProgram_29 rfl rfl rfl (rti_i rfl) rfl (fun qd_4 => ?_)
        refine x_aload_n (pc2 := 33) C dX4_runProgram_32 3 rfl rfl rfl ?_
        refine x_getI (pc2 := 36) (f := 308) C (by assumption) kf_4_193 dX4_runProgram_33 rfl rfl rfl ?_
        refine x_aload_n (pc2 := 37) C dX4_runProgram_36 3 rfl rfl rfl ?_
        refine x_getI (pc2 := 40) (f := 309) C (by assumption) kf_4_190 dX4_runProgram_37 rfl rfl rfl ?_
        refine x_ret (rest := []) (st2 := [_]) (pc2 := 43) (cu2 := 0) (su2 := 0) (x_cV C (by assumption) (Nat.le_of_ble_eq_true rfl) kmX5_operationAt rfl kk_4_201 (tX5_operationAt hok (by assumption)) rfl rfl (Nat.le_of_ble_eq_true rfl) ⟨Nat.le_of_ble_eq_true rfl, Nat.le_of_ble_eq_true rfl⟩ ⟨Nat.le_of_ble_eq_true rfl, Nat.le_of_ble_eq_true rfl⟩ dX4_runProgram_40) rfl rfl rfl rfl ?_
        refine x_istore (pc2 := 45) (lv2 := [(4, _), (3, _), (0, _), (1, _), (2, _)]) C dX4_runProgram_43 (by decide) rfl rfl ?_
        refine x_aload_n (pc2 := 46) C dX4_runProgram_45 2 rfl rfl rfl ?_
        refine x_getR (f := 400) (k2 := 5) (pc2 := 49) C (by assumption) kf_4_34 dX4_runProgram_46 rfl rfl rfl (rti_i rfl) rfl (fun qd_5 => ?_)
        refine x_aload_n (pc2 := 50) C dX4_runProgram_49 4 rfl rfl rfl ?_
        refine x_getI (pc2 := 53) (f := 308) C (by assumption) kf_4_193 dX4_runProgram_50 rfl rfl rfl ?_
        refine x_aload_n (pc2 := 54) C dX4_runProgram_53 4 rfl rfl rfl ?_
        refine x_getI (pc2 := 57) (f := 309) C (by assumption) kf_4_190 dX4_runProgram_54 rfl rfl rfl ?_
        refine x_ret (rest := []) (st2 := [_]) (pc2 := 60) (cu2 := 0) (su2 := 0) (x_cV C (by assumption) (Nat.le_of_ble_eq_true rfl) kmX5_argumentAt rfl kk_4_204 (tX5_argumentAt hok (by assumption)) rfl rfl (Nat.le_of_ble_eq_true rfl) ⟨Nat.le_of_ble_eq_true rfl, Nat.le_of_ble_eq_true rfl⟩ ⟨Nat.le_of_ble_eq_true rfl, Nat.le_of_ble_eq_true rfl⟩ dX4_runProgram_57) rfl rfl rfl rfl ?_
        refine x_istore (pc2 := 62) (lv2 := [(5, _), (4, _), (3, _), (0, _), (1, _), (2, _)]) C dX4_runProgram_60 (by decide) rfl rfl ?_
        refine x_getsN (pc2 := 65) (q := 1) C (by decide) kg_4_207 dX4_runProgram_62 rfl ?_
        refine x_iload (pc2 := 67) C dX4_runProgram_65 1 rfl rfl ?_
        refine x_ret (rest := []) (st2 := [_]) (pc2 := 70) (cu2 := 0) (su2 := 0) (x_cSN C kmX10_at ke_4_129 (tX10_at_s hok (by decide)) rfl rfl (Nat.le_of_ble_eq_true rfl) ⟨Nat.le_of_ble_eq_true rfl, Nat.le_of_ble_eq_true rfl⟩ ⟨Nat.le_of_ble_eq_true rfl, Nat.le_of_ble_eq_true rfl⟩ dX4_runProgram_67) rfl rfl rfl rfl ?_
        refine x_aload_n (pc2 := 71) C dX4_runProgram_70 3 rfl rfl rfl ?_
        refine x_aload_n (pc2 := 72) C dX4_runProgram_71 5 rfl rfl rfl ?_
        refine x_iload (pc2 := 74) C dX4_runProgram_72 1 rfl rfl ?_
        refine x_iload (pc2 := 76) C dX4_runProgram_74 0 rfl rfl ?_
        rcases hq_6 : fX4_extraGas Ω b sg y2 (fX5_operationAt Ω 0 (xI Ω 308 y2 0) (xI Ω 309 y2 0)) (fX5_argumentAt Ω 0 (xI Ω 308 y2 0) (xI Ω 309 y2 0)) with _ | r_6
        · exact absurd hf (by rw [fX4_runProgram_l2, if_neg qc_1, if_pos qc_3, hq_6, Option.bind_none]; exact nofun)
        refine x_ret (rest := [_]) (st2 := [_, _]) (pc2 := 79) (cu2 := 0) (su2 := 0) (x_cV C (by assumption) (Nat.le_of_ble_eq_true rfl) kmX4_extraGas rfl kk_4_210 (tX4_extraGas hok (by assumption) (by assumption) (by assumption) (by assumption)  hq_6) rfl rfl (Nat.le_of_ble_eq_true rfl) ⟨Nat.le_of_ble_eq_true rfl, Nat.le_of_ble_eq_true rfl⟩ ⟨Nat.le_of_ble_eq_true rfl, Nat.le_of_ble_eq_true rfl⟩ dX4_runProgram_76) rfl rfl rfl rfl ?_
        refine x_iadd (pc2 := 80) C dX4_runProgram_79 rfl ?_
        refine x_istore (pc2 := 82) (lv2 := [(6, _), (5, _), (4, _), (3, _), (0, _), (1, _), (2, _)]) C dX4_runProgram_80 (by decide) rfl rfl ?_
        refine x_aload_n (pc2 := 83) C dX4_runProgram_82 6 rfl rfl rfl ?_
        refine x_iload (pc2 := 85) C dX4_runProgram_83 2 rfl rfl ?_
        refine x_ret (rest := []) (st2 := [_]) (pc2 := 88) (cu2 := 0) (su2 := 0) (x_cV C (by assumption) (Nat.le_of_ble_eq_true rfl) kmX3_heapAllows rfl kk_4_214 (tX3_heapAllows hok (by assumption)) rfl rfl (Nat.le_of_ble_eq_true rfl) ⟨Nat.le_of_ble_eq_true rfl, Nat.le_of_ble_eq_true rfl⟩ ⟨Nat.le_of_ble_eq_true rfl, Nat.le_of_ble_eq_true rfl⟩ dX4_runProgram_85) rfl rfl rfl rfl ?_
        refine x_if_eq (tgt := 100) (pc2 := 91) C dX4_runProgram_88 (by decide) rfl (fun qc_7 => ?_) (fun qc_7 => ?_)
        · refine x_aload_n (pc2 := 101) C dX4_runProgram_100 6 rfl rfl rfl ?_
          refine x_iconst (pc2 := 102) (v := 0) C dX4_runProgram_101 rfl rfl ?_
          refine x_putI (pc2 := 105) (f := 310) C (by assumption) kf_4_70 dX4_runProgram_102 rfl rfl rfl rfl rfl ?_
          obtain ⟨Ω_8, hw_8⟩ : ∃ z, z = uI Ω 310 y2 0 (0 : Int32) := ⟨_, rfl⟩
          refine x_om hw_8 ?_
          refine x_iconst (pc2 := 106) (v := 0) C dX4_runProgram_105 rfl rfl ?_
          rw [fX4_runProgram_l2, if_neg qc_1, if_pos qc_3, hq_6, Option.bind_some, if_pos qc_7, wl_eq hw_8] at hf
          obtain ⟨hT9, hW9⟩ := hk _ (Option.some.inj hf).symm
          exact x_zreturn C dX4_runProgram_106 rfl (by first | exact Or.inl rfl | exact Or.inr rfl) (Nat.le_of_ble_eq_true rfl) (Nat.le_of_ble_eq_true rfl) hT9 hW9
        · refine x_iload (pc2 := 93) C dX4_runProgram_91 0 rfl rfl ?_
          refine x_aload_n (pc2 := 94) C dX4_runProgram_93 6 rfl rfl rfl ?_
          refine x_getI (pc2 := 97) (f := 310) C (by assumption) kf_4_70 dX4_runProgram_94 rfl rfl rfl ?_
          refine x_icmp_le (tgt := 107) (pc2 := 100) C dX4_runProgram_97 (by decide) rfl (fun qc_9 => ?_) (fun qc_9 => ?_)
          · refine x_aload_n (pc2 := 108) C dX4_runProgram_107 6 rfl rfl rfl ?_
            refine x_dup (pc2 := 109) C dX4_runProgram_108 rfl rfl ?_
            refine x_getI (pc2 := 112) (f := 310) C (by assumption) kf_4_70 dX4_runProgram_109 rfl rfl rfl ?_
            refine x_iload (pc2 := 114) C dX4_runProgram_112 0 rfl rfl ?_
            refine x_isub (pc2 := 115) C dX4_runProgram_114 rfl ?_
            refine x_putI (pc2 := 118) (f := 310) C (by assumption) kf_4_70 dX4_runProgram_115 rfl rfl rfl rfl rfl ?_
            obtain ⟨Ω_10, hw_10⟩ : ∃ z, z = uI Ω 310 y2 0 ((xI Ω 310 y2 0) - ((sTb 1 (fX5_operationAt Ω 0 (xI Ω 308 y2 0) (xI Ω 309 y2 0))) + r_6)) := ⟨_, rfl⟩
            refine x_om hw_10 ?_
            refine x_aload_n (pc2 := 119) C dX4_runProgram_118 6 rfl rfl rfl ?_
            refine x_dup (pc2 := 120) C dX4_runProgram_119 rfl rfl ?_
            refine x_getI (pc2 := 123) (f := 309) C (by assumption) kf_4_190 dX4_runProgram_120 rfl rfl rfl ?_
            refine x_iconst (pc2 := 124) (v := 1) C dX4_runProgram_123 rfl rfl ?_
            refine x_iadd (pc2 := 125) C dX4_runProgram_124 rfl ?_
            refine x_putI (pc2 := 128) (f := 309) C (by assumption) kf_4_190 dX4_runProgram_125 rfl rfl rfl rfl rfl ?_
            obtain ⟨Ω_11, hw_11⟩ : ∃ z, z = uI Ω_10 309 y2 0 ((xI Ω_10 309 y2 0) + (1 : Int32)) := ⟨_, rfl⟩
            refine x_om hw_11 ?_
            refine x_iload (pc2 := 130) C dX4_runProgram_128 2 rfl rfl ?_
            refine x_bipush (pc2 := 132) (v := 22) C dX4_runProgram_130 rfl rfl ?_
            refine x_icmp_lt (tgt := 143) (pc2 := 135) C dX4_runProgram_132 (by decide) rfl (fun qc_12 => ?_) (fun qc_12 => ?_)
            · refine x_iload (pc2 := 145) C dX4_runProgram_143 2 rfl rfl ?_
              refine x_bipush (pc2 := 147) (v := 19) C dX4_runProgram_145 rfl rfl ?_
              refine x_icmp_ne (tgt := 159) (pc2 := 150) C dX4_runProgram_147 (by decide) rfl (fun qc_13 => ?_) (fun qc_13 => ?_)
              · refine x_iload (pc2 := 161) C dX4_runProgram_159 2 rfl rfl ?_
                refine x_bipush (pc2 := 163) (v := 21) C dX4_runProgram_161 rfl rfl ?_
                refine x_icmp_ne (tgt := 176) (pc2 := 166) C dX4_runProgram_163 (by decide) rfl (fun qc_14 => ?_) (fun qc_14 => ?_)
                · refine x_aload_n (pc2 := 177) C dX4_runProgram_176 4 rfl rfl rfl ?_
                  refine x_aload_n (pc2 := 178) C dX4_runProgram_177 6 rfl rfl rfl ?_
                  refine x_iload (pc2 := 180) C dX4_runProgram_178 2 rfl rfl ?_
                  refine x_iload (pc2 := 182) C dX4_runProgram_180 1 rfl rfl ?_
                  rcases hq_15 : fX4_touchState Ω_11 b sg y2 (fX5_operationAt Ω 0 (xI Ω 308 y2 0) (xI Ω 309 y2 0)) (fX5_argumentAt Ω 0 (xI Ω 308 y2 0) (xI Ω 309 y2 0)) with _ | r_15
                  · exact absurd hf (by rw [fX4_runProgram_l2, if_neg qc_1, if_pos qc_3, hq_6, Option.bind_some, if_neg qc_7, if_pos qc_9, wl_eq hw_10, wl_eq hw_11, if_pos qc_12, if_neg qc_13, if_neg qc_14, hq_15, Option.bind_none]; exact nofun)
                  refine x_ret (rest := []) (st2 := [_]) (pc2 := 185) (cu2 := 0) (su2 := 0) (x_cV C (by assumption) (Nat.le_of_ble_eq_true rfl) kmX4_touchState rfl kk_4_229 (tX4_touchState hok (by assumption) (by assumption) (by assumption) (by assumption)  hq_15) rfl rfl (Nat.le_of_ble_eq_true rfl) ⟨Nat.le_of_ble_eq_true rfl, Nat.le_of_ble_eq_true rfl⟩ ⟨Nat.le_of_ble_eq_true rfl, Nat.le_of_ble_eq_true rfl⟩ dX4_runProgram_182) rfl rfl rfl rfl ?_
                  refine x_if_ne (tgt := 196) (pc2 := 188) C dX4_runProgram_185 (by decide) rfl (fun qc_16 => ?_) (fun qc_16 => ?_)
                  · refine x_iinc (pc2 := 199) (v := y3 + 1) (lv2 := [(3, _), (6, _), (5, _), (4, _), (0, _), (1, _), (2, _)]) C dX4_runProgram_196 3 rfl rfl (by decide) rfl rfl ?_
                    refine x_goto (tgt := 2) C dX4_runProgram_199 (by decide) ?_
                    exact x_sub (lv2 := [(3, _), (0, _), (1, _), (2, _)]) C [0, 4, 5, 6] rfl (ih (y3 + 1) r_15.2 (by rw [fX4_runProgram_l2, if_neg qc_1, if_pos qc_3, hq_6, Option.bind_some, if_neg qc_7, if_pos qc_9, wl_eq hw_10, wl_eq hw_11, if_pos qc_12, if_neg qc_13, if_neg qc_14, hq_15, Option.bind_some, if_neg qc_16] at hf; exact hf) hk hk2)
                  · refine x_aload_n (pc2 := 189) C dX4_runProgram_188 6 rfl rfl rfl ?_
                    refine x_iload (pc2 := 191) C dX4_runProgram_189 2 rfl rfl ?_
                    refine x_iload (pc2 := 193) C dX4_runProgram_191 1 rfl rfl ?_
                    refine x_ret (rest := []) (st2 := []) (pc2 := 196) (cu2 := 0) (su2 := 0) (x_cV C (by assumption) (Nat.le_of_ble_eq_true rfl) kmX3_perform rfl kk_4_233 (tX3_perform hok (by assumption)) rfl rfl (Nat.le_of_ble_eq_true rfl) ⟨Nat.le_of_ble_eq_true rfl, Nat.le_of_ble_eq_true rfl⟩ ⟨Nat.le_of_ble_eq_true rfl, Nat.le_of_ble_eq_true rfl⟩ dX4_runProgram_193) rfl rfl rfl rfl ?_
                    obtain ⟨Ω_17, hw_17⟩ : ∃ z, z = fX3_perform r_15.2 y2 (fX5_operationAt Ω 0 (xI Ω 308 y2 0) (xI Ω 309 y2 0)) (fX5_argumentAt Ω 0 (xI Ω 308 y2 0) (xI Ω 309 y2 0)) := ⟨_, rfl⟩
                    refine x_om hw_17 ?_
                    refine x_iinc (pc2 := 199) (v := y3 + 1) (lv2 := [(3, _), (6, _), (5, _), (4, _), (0, _), (1, _), (2, _)]) C dX4_runProgram_196 3 rfl rfl (by decide) rfl rfl ?_
                    refine x_goto (tgt := 2) C dX4_runProgram_199 (by decide) ?_
                    exact x_sub (lv2 := [(3, _), (0, _), (1, _), (2, _)]) C [0, 4, 5, 6] rfl (ih (y3 + 1) Ω_17 (by rw [fX4_runProgram_l2, if_neg qc_1, if_pos qc_3, hq_6, Option.bind_some, if_neg qc_7, if_pos qc_9, wl_eq hw_10, wl_eq hw_11, if_pos qc_12, if_neg qc_13, if_neg qc_14, hq_15, Option.bind_some, if_pos qc_16, wl_eq hw_17] at hf; exact hf) hk hk2)
                · refine x_aload_n (pc2 := 167) C dX4_runProgram_166 4 rfl rfl rfl ?_
                  refine x_aload_n (pc2 := 168) C dX4_runProgram_167 6 rfl rfl rfl ?_
                  refine x_iload (pc2 := 170) C dX4_runProgram_168 1 rfl rfl ?_
                  rcases hq_18 : fX4_makeFrom Ω_11 b sg y2 (fX5_argumentAt Ω 0 (xI Ω 308 y2 0) (xI Ω 309 y2 0)) with _ | r_18
                  · exact absurd hf (by rw [fX4_runProgram_l2, if_neg qc_1, if_pos qc_3, hq_6, Option.bind_some, if_neg qc_7, if_pos qc_9, wl_eq hw_10, wl_eq hw_11, if_pos qc_12, if_neg qc_13, if_pos qc_14, hq_18, Option.bind_none]; exact nofun)
                  refine x_ret (rest := []) (st2 := []) (pc2 := 173) (cu2 := 0) (su2 := 0) (x_cV C (by assumption) (Nat.le_of_ble_eq_true rfl) kmX4_makeFrom rfl kk_4_225 (tX4_makeFrom hok (by assumption) (by assumption) (by assumption) (by assumption)  hq_18) rfl rfl (Nat.le_of_ble_eq_true rfl) ⟨Nat.le_of_ble_eq_true rfl, Nat.le_of_ble_eq_true rfl⟩ ⟨Nat.le_of_ble_eq_true rfl, Nat.le_of_ble_eq_true rfl⟩ dX4_runProgram_170) rfl rfl rfl rfl ?_
                  refine x_goto (tgt := 196) C dX4_runProgram_173 (by decide) ?_
                  refine x_iinc (pc2 := 199) (v := y3 + 1) (lv2 := [(3, _), (6, _), (5, _), (4, _), (0, _), (1, _), (2, _)]) C dX4_runProgram_196 3 rfl rfl (by decide) rfl rfl ?_
                  refine x_goto (tgt := 2) C dX4_runProgram_199 (by decide) ?_
                  exact x_sub (lv2 := [(3, _), (0, _), (1, _), (2, _)]) C [0, 4, 5, 6] rfl (ih (y3 + 1) r_18 (by rw [fX4_runProgram_l2, if_neg qc_1, if_pos qc_3, hq_6, Option.bind_some, if_neg qc_7, if_pos qc_9, wl_eq hw_10, wl_eq hw_11, if_pos qc_12, if_neg qc_13, if_pos qc_14, hq_18, Option.bind_some] at hf; exact hf) hk hk2)
              · refine x_aload_n (pc2 := 151) C dX4_runProgram_150 4 rfl rfl rfl ?_
                refine x_iload_n (pc2 := 152) C dX4_runProgram_151 5 rfl rfl rfl ?_
                refine x_aload_n (pc2 := 153) C dX4_runProgram_152 6 rfl rfl rfl ?_
                rcases hq_19 : fX4_callFrom Ω_11 b sg dl y1 y2 with _ | r_19
                · exact absurd hf (by rw [fX4_runProgram_l2, if_neg qc_1, if_pos qc_3, hq_6, Option.bind_some, if_neg qc_7, if_pos qc_9, wl_eq hw_10, wl_eq hw_11, if_pos qc_12, if_pos qc_13, hq_19, Option.bind_none]; exact nofun)
                refine x_ret (rest := []) (st2 := []) (pc2 := 156) (cu2 := 0) (su2 := 0) (x_cV C (by assumption) (Nat.le_of_ble_eq_true rfl) kmX4_callFrom rfl kk_4_221 (tX4_callFrom_0 hok (by assumption) (by assumption) (by assumption) (by assumption)  hdl hq_19) rfl rfl (Nat.le_of_ble_eq_true rfl) ⟨Nat.le_of_ble_eq_true rfl, Nat.le_of_ble_eq_true rfl⟩ ⟨Nat.le_of_ble_eq_true rfl, Nat.le_of_ble_eq_true rfl⟩ dX4_runProgram_153) rfl rfl rfl rfl ?_
                refine x_goto (tgt := 196) C dX4_runProgram_156 (by decide) ?_
                refine x_iinc (pc2 := 199) (v := y3 + 1) (lv2 := [(3, _), (6, _), (5, _), (4, _), (0, _), (1, _), (2, _)]) C dX4_runProgram_196 3 rfl rfl (by decide) rfl rfl ?_
                refine x_goto (tgt := 2) C dX4_runProgram_199 (by decide) ?_
                exact x_sub (lv2 := [(3, _), (0, _), (1, _), (2, _)]) C [0, 4, 5, 6] rfl (ih (y3 + 1) r_19 (by rw [fX4_runProgram_l2, if_neg qc_1, if_pos qc_3, hq_6, Option.bind_some, if_neg qc_7, if_pos qc_9, wl_eq hw_10, wl_eq hw_11, if_pos qc_12, if_pos qc_13, hq_19, Option.bind_some] at hf; exact hf) hk hk2)
            · refine x_aload_n (pc2 := 136) C dX4_runProgram_135 4 rfl rfl rfl ?_
              refine x_aload_n (pc2 := 137) C dX4_runProgram_136 6 rfl rfl rfl ?_
              refine x_iload (pc2 := 139) C dX4_runProgram_137 2 rfl rfl ?_
              rcases hq_20 : fX4_finish Ω_11 b sg y2 (fX5_operationAt Ω 0 (xI Ω 308 y2 0) (xI Ω 309 y2 0)) with _ | r_20
              · exact absurd hf (by rw [fX4_runProgram_l2, if_neg qc_1, if_pos qc_3, hq_6, Option.bind_some, if_neg qc_7, if_pos qc_9, wl_eq hw_10, wl_eq hw_11, if_neg qc_12, hq_20, Option.bind_none]; exact nofun)
              refine x_ret (rest := []) (st2 := [_]) (pc2 := 142) (cu2 := 0) (su2 := 0) (x_cV C (by assumption) (Nat.le_of_ble_eq_true rfl) kmX4_finish rfl kk_4_217 (tX4_finish hok (by assumption) (by assumption) (by assumption) (by assumption)  hq_20) rfl rfl (Nat.le_of_ble_eq_true rfl) ⟨Nat.le_of_ble_eq_true rfl, Nat.le_of_ble_eq_true rfl⟩ ⟨Nat.le_of_ble_eq_true rfl, Nat.le_of_ble_eq_true rfl⟩ dX4_runProgram_139) rfl rfl rfl rfl ?_
              rcases (Decidable.em (r_20.1 = 0 ∨ r_20.1 = 1)).symm with qg_21 | qg_21
              · exact absurd hf (by rw [fX4_runProgram_l2, if_neg qc_1, if_pos qc_3, hq_6, Option.bind_some, if_neg qc_7, if_pos qc_9, wl_eq hw_10, wl_eq hw_11, if_neg qc_12, hq_20, Option.bind_some, if_neg qg_21]; exact nofun)
              rw [fX4_runProgram_l2, if_neg qc_1, if_pos qc_3, hq_6, Option.bind_some, if_neg qc_7, if_pos qc_9, wl_eq hw_10, wl_eq hw_11, if_neg qc_12, hq_20, Option.bind_some, if_pos qg_21] at hf
              obtain ⟨hT9, hW9⟩ := hk _ (Option.some.inj hf).symm
              exact x_zreturn C dX4_runProgram_142 rfl qg_21 (Nat.le_of_ble_eq_true rfl) (Nat.le_of_ble_eq_true rfl) hT9 hW9
          · refine x_aload_n (pc2 := 101) C dX4_runProgram_100 6 rfl rfl rfl ?_
            refine x_iconst (pc2 := 102) (v := 0) C dX4_runProgram_101 rfl rfl ?_
            refine x_putI (pc2 := 105) (f := 310) C (by assumption) kf_4_70 dX4_runProgram_102 rfl rfl rfl rfl rfl ?_
            obtain ⟨Ω_22, hw_22⟩ : ∃ z, z = uI Ω 310 y2 0 (0 : Int32) := ⟨_, rfl⟩
            refine x_om hw_22 ?_
            refine x_iconst (pc2 := 106) (v := 0) C dX4_runProgram_105 rfl rfl ?_
            rw [fX4_runProgram_l2, if_neg qc_1, if_pos qc_3, hq_6, Option.bind_some, if_neg qc_7, if_neg qc_9, wl_eq hw_22] at hf
            obtain ⟨hT9, hW9⟩ := hk _ (Option.some.inj hf).symm
            exact x_zreturn C dX4_runProgram_106 rfl (by first | exact Or.inl rfl | exact Or.inr rfl) (Nat.le_of_ble_eq_true rfl) (Nat.le_of_ble_eq_true rfl) hT9 hW9
      · refine x_iconst (pc2 := 27) (v := 1) C dX4_runProgram_26 rfl rfl ?_
        rw [fX4_runProgram_l2, if_neg qc_1, if_neg qc_3] at hf
        obtain ⟨hT9, hW9⟩ := hk _ (Option.some.inj hf).symm
        exact x_zreturn C dX4_runProgram_27 rfl (by first | exact Or.inl rfl | exact Or.inr rfl) (Nat.le_of_ble_eq_true rfl) (Nat.le_of_ble_eq_true rfl) hT9 hW9
def fX4_runProgram (Ω : XO) (b : Nat) (sg : Nat) (dl : XO → Int32 → Int32 → Int32 → Int32 → Int32 → Int32 → Option (Int32 × XO)) (x1 : Int32) (i2 : Nat) : Option (Int32 × XO) := (fX4_runProgram_l2 b sg dl x1 i2 1000001 (0 : Int32) Ω).bind (Sum.elim (fun v => some v) (fun q_1 => (some ((0 : Int32), q_1.2))))
set_option maxRecDepth 20000 in
theorem tX4_runProgram_0 {G : XG} (hok : XK G) {b : Nat} {sg : Nat} {dl : XO → Int32 → Int32 → Int32 → Int32 → Int32 → Int32 → Option (Int32 × XO)} {x1 : Int32} {i2 : Nat} {Ω : XO} (hd0 : dm G 4 0) (hd2 : dm G 3 i2) (db : dm G 0 b) (ds : dm G 6 sg) (hdl : ∀ {Ω : XO} {x1 x2 x3 x4 x5 x6 : Int32} {r : Int32 × XO}, dl Ω x1 x2 x3 x4 x5 x6 = some r → XM G yX4_deliver cX4_deliver 10 ((some FieldType.boolean)) (RM 0 0) [.ref (ad G 4 0), .int x1, .int x2, .int x3, .int x4, .int x5, .int x6] Ω (.inl (some (.int r.1))) r.2) {r : Int32 × XO} (hf : fX4_runProgram Ω b sg dl x1 i2 = some r) : XM G yX4_runProgram cX4_runProgram 7 ((some FieldType.boolean)) (RM 3 0) [.ref (ad G 4 0), .int x1, .ref (ad G 3 i2)] Ω (.inl (some (.int (r.1)))) r.2 := by
  refine x_start (lv := [(0, .ref (ad G 4 0)), (1, .int x1), (2, .ref (ad G 3 i2))]) (own := RX4) hok (by decide +kernel) rfl (Nat.le_of_ble_eq_true rfl) rfl (fun B C => ?_)
  refine x_iconst (pc2 := 1) (v := 0) C dX4_runProgram_0 rfl rfl ?_
  refine x_istore_n (pc2 := 2) (lv2 := [(3, _), (0, _), (1, _), (2, _)]) C dX4_runProgram_1 rfl (by decide) rfl rfl ?_
  rcases hq_1 : fX4_runProgram_l2 b sg dl x1 i2 1000001 (0 : Int32) Ω with _ | (v_1 | q_1)
  · exact absurd hf (by rw [fX4_runProgram, hq_1, Option.bind_none]; exact nofun)
  · exact x_sub (lv2 := [(3, _), (0, _), (1, _), (2, _)]) C [0, 1, 2, 3] rfl (lX4_runProgram_l2_0 hok (by assumption) (by assumption) (by assumption) (by assumption) hdl C 1000001 (0 : Int32) Ω hq_1 (fun v9 h9 => by cases h9; rw [fX4_runProgram, hq_1, Option.bind_some, Sum.elim_inl] at hf; cases hf; exact ⟨rfl, rfl⟩) (fun _ h9 => nomatch h9))
  refine x_sub (lv2 := [(3, _), (0, _), (1, _), (2, _)]) C [0, 1, 2, 3] rfl (lX4_runProgram_l2_0 hok (by assumption) (by assumption) (by assumption) (by assumption) hdl C 1000001 (0 : Int32) Ω hq_1 (fun _ h9 => nomatch h9) (fun q9 h9 => ?_))
  cases h9
  refine x_iconst (pc2 := 203) (v := 0) C dX4_runProgram_202 rfl rfl ?_
  rw [fX4_runProgram, hq_1, Option.bind_some, Sum.elim_inr] at hf
  cases hf
  exact x_zreturn C dX4_runProgram_203 rfl (by first | exact Or.inl rfl | exact Or.inr rfl) (Nat.le_of_ble_eq_true rfl) (Nat.le_of_ble_eq_true rfl) rfl rfl
def fX4_deliver_s (Ω : XO) (b : Nat) (sg : Nat) (dl : XO → Int32 → Int32 → Int32 → Int32 → Int32 → Int32 → Option (Int32 × XO)) (x1 : Int32) (x2 : Int32) (x3 : Int32) (x4 : Int32) (x5 : Int32) (x6 : Int32) : Option (Int32 × XO) := (if x1 < (1 : Int32) then (some ((0 : Int32), Ω)) else (if x1 ≤ (4 : Int32) then (if inB (x1 - (1 : Int32)) 4 then (wl (uI Ω 310 ((x1 - (1 : Int32)).toNatClampNeg) 0 x6) (fun Ω_6 => (if xR Ω_6 404 0 = sg then (if (sAt Ω_6 2013 sg x3) = 0 then (if xR Ω_6 404 0 = sg then (wl (fX6_move Ω_6 sg x2 x3 x4) (fun Ω_22 => (some ((1 : Int32), Ω_22)))) else none) else (wl (fX3_open Ω_6 ((x1 - (1 : Int32)).toNatClampNeg) ((sAt Ω_6 2013 sg x3) - (1 : Int32)) x2 x3 x4 x5) (fun Ω_10 => (if xR Ω_10 404 0 = sg then (if xR Ω_10 403 0 = b then (wl (fX3_save Ω_10 ((x1 - (1 : Int32)).toNatClampNeg) sg (xI Ω_10 10 b 0) (xI Ω_10 406 0 0)) (fun Ω_13 => (if xR Ω_13 404 0 = sg then (wl (fX6_move Ω_13 sg x2 x3 x4) (fun Ω_15 => (fX4_runProgram Ω_15 b sg dl x1 ((x1 - (1 : Int32)).toNatClampNeg)).bind (fun r_16 => (if r_16.1 = 0 then (fX4_undo r_16.2 b sg ((x1 - (1 : Int32)).toNatClampNeg)).bind (fun r_19 => (if r_16.1 = 0 ∨ r_16.1 = 1 then (some (r_16.1, r_19)) else none)) else (if r_16.1 = 0 ∨ r_16.1 = 1 then (some (r_16.1, r_16.2)) else none))))) else none))) else none) else none)))) else none))) else none) else (some ((0 : Int32), Ω))))
set_option maxRecDepth 20000 in
theorem tX4_deliver_s_0 {G : XG} (hok : XK G) {b : Nat} {sg : Nat} {dl : XO → Int32 → Int32 → Int32 → Int32 → Int32 → Int32 → Option (Int32 × XO)} {x1 : Int32} {x2 : Int32} {x3 : Int32} {x4 : Int32} {x5 : Int32} {x6 : Int32} {Ω : XO} (hd0 : dm G 4 0) (db : dm G 0 b) (ds : dm G 6 sg) (hdl : ∀ {Ω : XO} {x1 x2 x3 x4 x5 x6 : Int32} {r : Int32 × XO}, dl Ω x1 x2 x3 x4 x5 x6 = some r → XM G yX4_deliver cX4_deliver 10 ((some FieldType.boolean)) (RM 0 0) [.ref (ad G 4 0), .int x1, .int x2, .int x3, .int x4, .int x5, .int x6] Ω (.inl (some (.int r.1))) r.2) {r : Int32 × XO} (hf : fX4_deliver_s Ω b sg dl x1 x2 x3 x4 x5 x6 = some r) : XM G yX4_deliver cX4_deliver 10 ((some FieldType.boolean)) (RM 4 0) [.ref (ad G 4 0), .int x1, .int x2, .int x3, .int x4, .int x5, .int x6] Ω (.inl (some (.int (r.1)))) r.2 := by
  refine x_start (lv := [(0, .ref (ad G 4 0)), (1, .int x1), (2, .int x2), (3, .int x3), (4, .int x4), (5, .int x5), (6, .int x6)]) (own := RX4) hok (by decide +kernel) rfl (Nat.le_of_ble_eq_true rfl) rfl (fun B C => ?_)
  refine x_iload_n (pc2 := 1) C dX4_deliver_0 1 rfl rfl rfl ?_
  refine x_iconst (pc2 := 2) (v := 1) C dX4_deliver_1 rfl rfl ?_
  refine x_icmp_lt (tgt := 10) (pc2 := 5) C dX4_deliver_2 (by decide) rfl (fun qc_1 => ?_) (fun qc_1 => ?_)
  · refine x_iconst (pc2 := 11) (v := 0) C dX4_deliver_10 rfl rfl ?_
    rw [fX4_deliver_s, if_pos qc_1] at hf
    cases hf
    exact x_zreturn C dX4_deliver_11 rfl (by first | exact Or.inl rfl | exact Or.inr rfl) (Nat.le_of_ble_eq_true rfl) (Nat.le_of_ble_eq_true rfl) rfl rfl
  · refine x_iload_n (pc2 := 6) C dX4_deliver_5 1 rfl rfl rfl ?_
    refine x_iconst (pc2 := 7) (v := 4) C dX4_deliver_6 rfl rfl ?_
    refine x_icmp_le (tgt := 12) (pc2 := 10) C dX4_deliver_7 (by decide) rfl (fun qc_2 => ?_) (fun qc_2 => ?_)
    · refine x_aload_n (pc2 := 13) C dX4_deliver_12 0 rfl rfl rfl ?_
      refine x_getR (f := 401) (k2 := 2007) (pc2 := 16) C (by assumption) kf_4_11 dX4_deliver_13 rfl rfl rfl (rti_i rfl) rfl (fun qd_3 => ?_)
      refine x_iload_n (pc2 := 17) C dX4_deliver_16 1 rfl rfl rfl ?_
      refine x_iconst (pc2 := 18) (v := 1) C dX4_deliver_17 rfl rfl ?_
      refine x_isub (pc2 := 19) C dX4_deliver_18 rfl ?_
      rcases (Decidable.em (inB (x1 - (1 : Int32)) 4)).symm with qg_4 | qg_4
      · exact absurd hf (by rw [fX4_deliver_s, if_neg qc_1, if_pos qc_2, if_neg qg_4]; exact nofun)
      refine x_aald (k2 := 3) (pc2 := 20) C (by assumption) dX4_deliver_19 rfl rfl (inB_in qg_4) rfl (eli_2007 _ _) rfl (fun qd_5 => ?_)
      refine x_astore (pc2 := 22) (lv2 := [(7, _), (0, _), (1, _), (2, _), (3, _), (4, _), (5, _), (6, _)]) C dX4_deliver_20 (by decide) rfl rfl ?_
      refine x_aload (pc2 := 24) C dX4_deliver_22 0 rfl rfl ?_
      refine x_iload (pc2 := 26) C dX4_deliver_24 7 rfl rfl ?_
      refine x_putI (pc2 := 29) (f := 310) C (by assumption) kf_4_70 dX4_deliver_26 rfl rfl rfl rfl rfl ?_
      obtain ⟨Ω_6, hw_6⟩ : ∃ z, z = uI Ω 310 ((x1 - (1 : Int32)).toNatClampNeg) 0 x6 := ⟨_, rfl⟩
      refine x_om hw_6 ?_
      refine x_aload_n (pc2 := 30) C dX4_deliver_29 1 rfl rfl rfl ?_
      rcases (Decidable.em (xR Ω_6 404 0 = sg)).symm with qg_7 | qg_7
      · exact absurd hf (by rw [fX4_deliver_s, if_neg qc_1, if_pos qc_2, if_pos qg_4, wl_eq hw_6, if_neg qg_7]; exact nofun)
      refine x_getM (pc2 := 33) (f := 404) (k2 := 6) (v9 := sg) C (by assumption) kf_4_33 dX4_deliver_30 rfl rfl rfl qg_7 rfl ?_
      refine x_getR (f := 602) (k2 := 2013) (pc2 := 36) C (by assumption) kf_4_147 dX4_deliver_33 rfl rfl rfl (rti_i rfl) rfl (fun qd_8 => ?_)
      refine x_iload_n (pc2 := 37) C dX4_deliver_36 4 rfl rfl rfl ?_
      refine x_ret (rest := []) (st2 := [_]) (pc2 := 40) (cu2 := 0) (su2 := 0) (x_cSN C kmX10_at ke_4_129 (tX10_at hok (by assumption) rfl (by decide)) rfl rfl (Nat.le_of_ble_eq_true rfl) ⟨Nat.le_of_ble_eq_true rfl, Nat.le_of_ble_eq_true rfl⟩ ⟨Nat.le_of_ble_eq_true rfl, Nat.le_of_ble_eq_true rfl⟩ dX4_deliver_37) rfl rfl rfl rfl ?_
      refine x_istore (pc2 := 42) (lv2 := [(8, _), (7, _), (0, _), (1, _), (2, _), (3, _), (4, _), (5, _), (6, _)]) C dX4_deliver_40 (by decide) rfl rfl ?_
      refine x_iload (pc2 := 44) C dX4_deliver_42 0 rfl rfl ?_
      refine x_if_ne (tgt := 60) (pc2 := 47) C dX4_deliver_44 (by decide) rfl (fun qc_9 => ?_) (fun qc_9 => ?_)
      · refine x_aload (pc2 := 62) C dX4_deliver_60 1 rfl rfl ?_
        refine x_iload (pc2 := 64) C dX4_deliver_62 0 rfl rfl ?_
        refine x_iconst (pc2 := 65) (v := 1) C dX4_deliver_64 rfl rfl ?_
        refine x_isub (pc2 := 66) C dX4_deliver_65 rfl ?_
        refine x_iload_n (pc2 := 67) C dX4_deliver_66 4 rfl rfl rfl ?_
        refine x_iload_n (pc2 := 68) C dX4_deliver_67 5 rfl rfl rfl ?_
        refine x_iload (pc2 := 70) C dX4_deliver_68 6 rfl rfl ?_
        refine x_iload (pc2 := 72) C dX4_deliver_70 7 rfl rfl ?_
        refine x_ret (rest := []) (st2 := []) (pc2 := 75) (cu2 := 0) (su2 := 0) (x_cV C (by assumption) (Nat.le_of_ble_eq_true rfl) kmX3_open rfl kk_4_157 (tX3_open hok (by assumption)) rfl rfl (Nat.le_of_ble_eq_true rfl) ⟨Nat.le_of_ble_eq_true rfl, Nat.le_of_ble_eq_true rfl⟩ ⟨Nat.le_of_ble_eq_true rfl, Nat.le_of_ble_eq_true rfl⟩ dX4_deliver_72) rfl rfl rfl rfl ?_
        obtain ⟨Ω_10, hw_10⟩ : ∃ z, z = fX3_open Ω_6 ((x1 - (1 : Int32)).toNatClampNeg) ((sAt Ω_6 2013 sg x3) - (1 : Int32)) x2 x3 x4 x5 := ⟨_, rfl⟩
        refine x_om hw_10 ?_
        refine x_aload (pc2 := 77) C dX4_deliver_75 1 rfl rfl ?_
        refine x_aload_n (pc2 := 78) C dX4_deliver_77 2 rfl rfl rfl ?_
        rcases (Decidable.em (xR Ω_10 404 0 = sg)).symm with qg_11 | qg_11
        · exact absurd hf (by rw [fX4_deliver_s, if_neg qc_1, if_pos qc_2, if_pos qg_4, wl_eq hw_6, if_pos qg_7, if_neg qc_9, wl_eq hw_10, if_neg qg_11]; exact nofun)
        refine x_getM (pc2 := 81) (f := 404) (k2 := 6) (v9 := sg) C (by assumption) kf_4_33 dX4_deliver_78 rfl rfl rfl qg_11 rfl ?_
        refine x_aload_n (pc2 := 82) C dX4_deliver_81 2 rfl rfl rfl ?_
        rcases (Decidable.em (xR Ω_10 403 0 = b)).symm with qg_12 | qg_12
        · exact absurd hf (by rw [fX4_deliver_s, if_neg qc_1, if_pos qc_2, if_pos qg_4, wl_eq hw_6, if_pos qg_7, if_neg qc_9, wl_eq hw_10, if_pos qg_11, if_neg qg_12]; exact nofun)
        refine x_getM (pc2 := 85) (f := 403) (k2 := 0) (v9 := b) C (by assumption) kf_4_26 dX4_deliver_82 rfl rfl rfl qg_12 rfl ?_
        refine x_getI (pc2 := 88) (f := 10) C (by assumption) kf_4_161 dX4_deliver_85 rfl rfl rfl ?_
        refine x_aload_n (pc2 := 89) C dX4_deliver_88 2 rfl rfl rfl ?_
        refine x_getI (pc2 := 92) (f := 406) C (by assumption) kf_4_67 dX4_deliver_89 rfl rfl rfl ?_
        refine x_ret (rest := []) (st2 := []) (pc2 := 95) (cu2 := 0) (su2 := 0) (x_cV C (by assumption) (Nat.le_of_ble_eq_true rfl) kmX3_save rfl kk_4_164 (tX3_save hok (by assumption) (by assumption)) rfl rfl (Nat.le_of_ble_eq_true rfl) ⟨Nat.le_of_ble_eq_true rfl, Nat.le_of_ble_eq_true rfl⟩ ⟨Nat.le_of_ble_eq_true rfl, Nat.le_of_ble_eq_true rfl⟩ dX4_deliver_92) rfl rfl rfl rfl ?_
        obtain ⟨Ω_13, hw_13⟩ : ∃ z, z = fX3_save Ω_10 ((x1 - (1 : Int32)).toNatClampNeg) sg (xI Ω_10 10 b 0) (xI Ω_10 406 0 0) := ⟨_, rfl⟩
        refine x_om hw_13 ?_
        refine x_aload_n (pc2 := 96) C dX4_deliver_95 2 rfl rfl rfl ?_
        rcases (Decidable.em (xR Ω_13 404 0 = sg)).symm with qg_14 | qg_14
        · exact absurd hf (by rw [fX4_deliver_s, if_neg qc_1, if_pos qc_2, if_pos qg_4, wl_eq hw_6, if_pos qg_7, if_neg qc_9, wl_eq hw_10, if_pos qg_11, if_pos qg_12, wl_eq hw_13, if_neg qg_14]; exact nofun)
        refine x_getM (pc2 := 99) (f := 404) (k2 := 6) (v9 := sg) C (by assumption) kf_4_33 dX4_deliver_96 rfl rfl rfl qg_14 rfl ?_
        refine x_iload_n (pc2 := 100) C dX4_deliver_99 4 rfl rfl rfl ?_
        refine x_iload_n (pc2 := 101) C dX4_deliver_100 5 rfl rfl rfl ?_
        refine x_iload (pc2 := 103) C dX4_deliver_101 6 rfl rfl ?_
        refine x_ret (rest := []) (st2 := []) (pc2 := 106) (cu2 := 0) (su2 := 0) (x_cV C (by assumption) (Nat.le_of_ble_eq_true rfl) kmX6_move rfl kk_4_139 (tX6_move hok (by assumption)) rfl rfl (Nat.le_of_ble_eq_true rfl) ⟨Nat.le_of_ble_eq_true rfl, Nat.le_of_ble_eq_true rfl⟩ ⟨Nat.le_of_ble_eq_true rfl, Nat.le_of_ble_eq_true rfl⟩ dX4_deliver_103) rfl rfl rfl rfl ?_
        obtain ⟨Ω_15, hw_15⟩ : ∃ z, z = fX6_move Ω_13 sg x2 x3 x4 := ⟨_, rfl⟩
        refine x_om hw_15 ?_
        refine x_aload_n (pc2 := 107) C dX4_deliver_106 2 rfl rfl rfl ?_
        refine x_iload_n (pc2 := 108) C dX4_deliver_107 3 rfl rfl rfl ?_
        refine x_aload (pc2 := 110) C dX4_deliver_108 1 rfl rfl ?_
        rcases hq_16 : fX4_runProgram Ω_15 b sg dl x1 ((x1 - (1 : Int32)).toNatClampNeg) with _ | r_16
        · exact absurd hf (by rw [fX4_deliver_s, if_neg qc_1, if_pos qc_2, if_pos qg_4, wl_eq hw_6, if_pos qg_7, if_neg qc_9, wl_eq hw_10, if_pos qg_11, if_pos qg_12, wl_eq hw_13, if_pos qg_14, wl_eq hw_15, hq_16, Option.bind_none]; exact nofun)
        refine x_ret (rest := []) (st2 := [_]) (pc2 := 113) (cu2 := 0) (su2 := 0) (x_cV C (by assumption) (Nat.le_of_ble_eq_true rfl) kmX4_runProgram rfl kk_4_168 (tX4_runProgram_0 hok (by assumption) (by assumption) (by assumption) (by assumption)  hdl hq_16) rfl rfl (Nat.le_of_ble_eq_true rfl) ⟨Nat.le_of_ble_eq_true rfl, Nat.le_of_ble_eq_true rfl⟩ ⟨Nat.le_of_ble_eq_true rfl, Nat.le_of_ble_eq_true rfl⟩ dX4_deliver_110) rfl rfl rfl rfl ?_
        refine x_istore (pc2 := 115) (lv2 := [(9, _), (8, _), (7, _), (0, _), (1, _), (2, _), (3, _), (4, _), (5, _), (6, _)]) C dX4_deliver_113 (by decide) rfl rfl ?_
        refine x_iload (pc2 := 117) C dX4_deliver_115 0 rfl rfl ?_
        refine x_if_ne (tgt := 126) (pc2 := 120) C dX4_deliver_117 (by decide) rfl (fun qc_17 => ?_) (fun qc_17 => ?_)
        · refine x_iload (pc2 := 128) C dX4_deliver_126 0 rfl rfl ?_
          rcases (Decidable.em (r_16.1 = 0 ∨ r_16.1 = 1)).symm with qg_18 | qg_18
          · exact absurd hf (by rw [fX4_deliver_s, if_neg qc_1, if_pos qc_2, if_pos qg_4, wl_eq hw_6, if_pos qg_7, if_neg qc_9, wl_eq hw_10, if_pos qg_11, if_pos qg_12, wl_eq hw_13, if_pos qg_14, wl_eq hw_15, hq_16, Option.bind_some, if_neg qc_17, if_neg qg_18]; exact nofun)
          rw [fX4_deliver_s, if_neg qc_1, if_pos qc_2, if_pos qg_4, wl_eq hw_6, if_pos qg_7, if_neg qc_9, wl_eq hw_10, if_pos qg_11, if_pos qg_12, wl_eq hw_13, if_pos qg_14, wl_eq hw_15, hq_16, Option.bind_some, if_neg qc_17, if_pos qg_18] at hf
          cases hf
          exact x_zreturn C dX4_deliver_128 rfl qg_18 (Nat.le_of_ble_eq_true rfl) (Nat.le_of_ble_eq_true rfl) rfl rfl
        · refine x_aload_n (pc2 := 121) C dX4_deliver_120 3 rfl rfl rfl ?_
          refine x_aload (pc2 := 123) C dX4_deliver_121 2 rfl rfl ?_
          rcases hq_19 : fX4_undo r_16.2 b sg ((x1 - (1 : Int32)).toNatClampNeg) with _ | r_19
          · exact absurd hf (by rw [fX4_deliver_s, if_neg qc_1, if_pos qc_2, if_pos qg_4, wl_eq hw_6, if_pos qg_7, if_neg qc_9, wl_eq hw_10, if_pos qg_11, if_pos qg_12, wl_eq hw_13, if_pos qg_14, wl_eq hw_15, hq_16, Option.bind_some, if_pos qc_17, hq_19, Option.bind_none]; exact nofun)
          refine x_ret (rest := []) (st2 := []) (pc2 := 126) (cu2 := 0) (su2 := 0) (x_cV C (by assumption) (Nat.le_of_ble_eq_true rfl) kmX4_undo rfl kk_4_172 (tX4_undo hok (by assumption) (by assumption) (by assumption) (by assumption)  hq_19) rfl rfl (Nat.le_of_ble_eq_true rfl) ⟨Nat.le_of_ble_eq_true rfl, Nat.le_of_ble_eq_true rfl⟩ ⟨Nat.le_of_ble_eq_true rfl, Nat.le_of_ble_eq_true rfl⟩ dX4_deliver_123) rfl rfl rfl rfl ?_
          refine x_iload (pc2 := 128) C dX4_deliver_126 0 rfl rfl ?_
          rcases (Decidable.em (r_16.1 = 0 ∨ r_16.1 = 1)).symm with qg_20 | qg_20
          · exact absurd hf (by rw [fX4_deliver_s, if_neg qc_1, if_pos qc_2, if_pos qg_4, wl_eq hw_6, if_pos qg_7, if_neg qc_9, wl_eq hw_10, if_pos qg_11, if_pos qg_12, wl_eq hw_13, if_pos qg_14, wl_eq hw_15, hq_16, Option.bind_some, if_pos qc_17, hq_19, Option.bind_some, if_neg qg_20]; exact nofun)
          rw [fX4_deliver_s, if_neg qc_1, if_pos qc_2, if_pos qg_4, wl_eq hw_6, if_pos qg_7, if_neg qc_9, wl_eq hw_10, if_pos qg_11, if_pos qg_12, wl_eq hw_13, if_pos qg_14, wl_eq hw_15, hq_16, Option.bind_some, if_pos qc_17, hq_19, Option.bind_some, if_pos qg_20] at hf
          cases hf
          exact x_zreturn C dX4_deliver_128 rfl qg_20 (Nat.le_of_ble_eq_true rfl) (Nat.le_of_ble_eq_true rfl) rfl rfl
      · refine x_aload_n (pc2 := 48) C dX4_deliver_47 2 rfl rfl rfl ?_
        rcases (Decidable.em (xR Ω_6 404 0 = sg)).symm with qg_21 | qg_21
        · exact absurd hf (by rw [fX4_deliver_s, if_neg qc_1, if_pos qc_2, if_pos qg_4, wl_eq hw_6, if_pos qg_7, if_pos qc_9, if_neg qg_21]; exact nofun)
        refine x_getM (pc2 := 51) (f := 404) (k2 := 6) (v9 := sg) C (by assumption) kf_4_33 dX4_deliver_48 rfl rfl rfl qg_21 rfl ?_
        refine x_iload_n (pc2 := 52) C dX4_deliver_51 4 rfl rfl rfl ?_
        refine x_iload_n (pc2 := 53) C dX4_deliver_52 5 rfl rfl rfl ?_
        refine x_iload (pc2 := 55) C dX4_deliver_53 6 rfl rfl ?_
        refine x_ret (rest := []) (st2 := []) (pc2 := 58) (cu2 := 0) (su2 := 0) (x_cV C (by assumption) (Nat.le_of_ble_eq_true rfl) kmX6_move rfl kk_4_139 (tX6_move hok (by assumption)) rfl rfl (Nat.le_of_ble_eq_true rfl) ⟨Nat.le_of_ble_eq_true rfl, Nat.le_of_ble_eq_true rfl⟩ ⟨Nat.le_of_ble_eq_true rfl, Nat.le_of_ble_eq_true rfl⟩ dX4_deliver_55) rfl rfl rfl rfl ?_
        obtain ⟨Ω_22, hw_22⟩ : ∃ z, z = fX6_move Ω_6 sg x2 x3 x4 := ⟨_, rfl⟩
        refine x_om hw_22 ?_
        refine x_iconst (pc2 := 59) (v := 1) C dX4_deliver_58 rfl rfl ?_
        rw [fX4_deliver_s, if_neg qc_1, if_pos qc_2, if_pos qg_4, wl_eq hw_6, if_pos qg_7, if_pos qc_9, if_pos qg_21, wl_eq hw_22] at hf
        cases hf
        exact x_zreturn C dX4_deliver_59 rfl (by first | exact Or.inl rfl | exact Or.inr rfl) (Nat.le_of_ble_eq_true rfl) (Nat.le_of_ble_eq_true rfl) rfl rfl
    · refine x_iconst (pc2 := 11) (v := 0) C dX4_deliver_10 rfl rfl ?_
      rw [fX4_deliver_s, if_neg qc_1, if_neg qc_2] at hf
      cases hf
      exact x_zreturn C dX4_deliver_11 rfl (by first | exact Or.inl rfl | exact Or.inr rfl) (Nat.le_of_ble_eq_true rfl) (Nat.le_of_ble_eq_true rfl) rfl rfl
def fX4_deliver (b sg : Nat) : Nat → XO → Int32 → Int32 → Int32 → Int32 → Int32 → Int32 → Option (Int32 × XO)
  | 0, _, _, _, _, _, _, _ => none
  | n + 1, Ω, x1, x2, x3, x4, x5, x6 => fX4_deliver_s Ω b sg (fX4_deliver b sg n) x1 x2 x3 x4 x5 x6
theorem tX4_dl_0 {G : XG} (hok : XK G) (hd0 : dm G 4 0) {b sg : Nat} (db : dm G 0 b) (ds : dm G 6 sg) {Ω : XO} {x1 x2 x3 x4 x5 x6 : Int32} {r : Int32 × XO} (hf : fX4_deliver b sg 0 Ω x1 x2 x3 x4 x5 x6 = some r) : XM G yX4_deliver cX4_deliver 10 ((some FieldType.boolean)) (RM 0 0) [.ref (ad G 4 0), .int x1, .int x2, .int x3, .int x4, .int x5, .int x6] Ω (.inl (some (.int r.1))) r.2 := by
  rw [fX4_deliver] at hf
  cases hf
theorem tX4_dl_1 {G : XG} (hok : XK G) (hd0 : dm G 4 0) {b sg : Nat} (db : dm G 0 b) (ds : dm G 6 sg) {Ω : XO} {x1 x2 x3 x4 x5 x6 : Int32} {r : Int32 × XO} (hf : fX4_deliver b sg 1 Ω x1 x2 x3 x4 x5 x6 = some r) : XM G yX4_deliver cX4_deliver 10 ((some FieldType.boolean)) (RM 4 0) [.ref (ad G 4 0), .int x1, .int x2, .int x3, .int x4, .int x5, .int x6] Ω (.inl (some (.int r.1))) r.2 :=
  tX4_deliver_s_0 hok hd0 db ds (fun h9 => tX4_dl_0 hok hd0 db ds h9) hf
set_option maxRecDepth 20000 in
theorem tX4_callFrom_1 {G : XG} (hok : XK G) {b : Nat} {sg : Nat} {dl : XO → Int32 → Int32 → Int32 → Int32 → Int32 → Int32 → Option (Int32 × XO)} {x1 : Int32} {i2 : Nat} {Ω : XO} (hd0 : dm G 4 0) (hd2 : dm G 3 i2) (db : dm G 0 b) (ds : dm G 6 sg) (hdl : ∀ {Ω : XO} {x1 x2 x3 x4 x5 x6 : Int32} {r : Int32 × XO}, dl Ω x1 x2 x3 x4 x5 x6 = some r → XM G yX4_deliver cX4_deliver 10 ((some FieldType.boolean)) (RM 4 0) [.ref (ad G 4 0), .int x1, .int x2, .int x3, .int x4, .int x5, .int x6] Ω (.inl (some (.int r.1))) r.2) {r : XO} (hf : fX4_callFrom Ω b sg dl x1 i2 = some r) : XM G yX4_callFrom cX4_callFrom 8 none (RM 5 0) [.ref (ad G 4 0), .int x1, .ref (ad G 3 i2)] Ω (.inl none) (r) := by
  refine x_start (lv := [(0, .ref (ad G 4 0)), (1, .int x1), (2, .ref (ad G 3 i2))]) (own := RX4) hok (by decide +kernel) rfl (Nat.le_of_ble_eq_true rfl) rfl (fun B C => ?_)
  refine x_aload_n (pc2 := 1) C dX4_callFrom_0 2 rfl rfl rfl ?_
  refine x_ret (rest := []) (st2 := [_]) (pc2 := 4) (cu2 := 0) (su2 := 0) (x_cV C (by assumption) (Nat.le_of_ble_eq_true rfl) kmX3_take rfl kk_4_249 (tX3_take hok (by assumption)) rfl rfl (Nat.le_of_ble_eq_true rfl) ⟨Nat.le_of_ble_eq_true rfl, Nat.le_of_ble_eq_true rfl⟩ ⟨Nat.le_of_ble_eq_true rfl, Nat.le_of_ble_eq_true rfl⟩ dX4_callFrom_1) rfl rfl rfl rfl ?_
  obtain ⟨Ω_1, hw_1⟩ : ∃ z, z = (fX3_take Ω i2).2 := ⟨_, rfl⟩
  refine x_om hw_1 ?_
  refine x_istore_n (pc2 := 5) (lv2 := [(3, _), (0, _), (1, _), (2, _)]) C dX4_callFrom_4 rfl (by decide) rfl rfl ?_
  refine x_aload_n (pc2 := 6) C dX4_callFrom_5 3 rfl rfl rfl ?_
  refine x_ret (rest := []) (st2 := [_]) (pc2 := 9) (cu2 := 0) (su2 := 0) (x_cV C (by assumption) (Nat.le_of_ble_eq_true rfl) kmX3_take rfl kk_4_249 (tX3_take hok (by assumption)) rfl rfl (Nat.le_of_ble_eq_true rfl) ⟨Nat.le_of_ble_eq_true rfl, Nat.le_of_ble_eq_true rfl⟩ ⟨Nat.le_of_ble_eq_true rfl, Nat.le_of_ble_eq_true rfl⟩ dX4_callFrom_6) rfl rfl rfl rfl ?_
  obtain ⟨Ω_2, hw_2⟩ : ∃ z, z = (fX3_take Ω_1 i2).2 := ⟨_, rfl⟩
  refine x_om hw_2 ?_
  refine x_istore (pc2 := 11) (lv2 := [(4, _), (3, _), (0, _), (1, _), (2, _)]) C dX4_callFrom_9 (by decide) rfl rfl ?_
  refine x_aload_n (pc2 := 12) C dX4_callFrom_11 4 rfl rfl rfl ?_
  refine x_ret (rest := []) (st2 := [_]) (pc2 := 15) (cu2 := 0) (su2 := 0) (x_cV C (by assumption) (Nat.le_of_ble_eq_true rfl) kmX3_take rfl kk_4_249 (tX3_take hok (by assumption)) rfl rfl (Nat.le_of_ble_eq_true rfl) ⟨Nat.le_of_ble_eq_true rfl, Nat.le_of_ble_eq_true rfl⟩ ⟨Nat.le_of_ble_eq_true rfl, Nat.le_of_ble_eq_true rfl⟩ dX4_callFrom_12) rfl rfl rfl rfl ?_
  obtain ⟨Ω_3, hw_3⟩ : ∃ z, z = (fX3_take Ω_2 i2).2 := ⟨_, rfl⟩
  refine x_om hw_3 ?_
  refine x_bipush (pc2 := 17) (v := 16) C dX4_callFrom_15 rfl rfl ?_
  refine x_irem (pc2 := 18) C dX4_callFrom_17 (by decide +kernel) rfl ?_
  refine x_istore (pc2 := 20) (lv2 := [(5, _), (4, _), (3, _), (0, _), (1, _), (2, _)]) C dX4_callFrom_18 (by decide) rfl rfl ?_
  refine x_iload_n (pc2 := 21) C dX4_callFrom_20 4 rfl rfl rfl ?_
  refine x_iconst (pc2 := 22) (v := 1) C dX4_callFrom_21 rfl rfl ?_
  refine x_icmp_lt (tgt := 49) (pc2 := 25) C dX4_callFrom_22 (by decide) rfl (fun qc_4 => ?_) (fun qc_4 => ?_)
  · refine x_aload_n (pc2 := 50) C dX4_callFrom_49 5 rfl rfl rfl ?_
    refine x_iconst (pc2 := 51) (v := 0) C dX4_callFrom_50 rfl rfl ?_
    refine x_ret (rest := []) (st2 := []) (pc2 := 54) (cu2 := 0) (su2 := 0) (x_cV C (by assumption) (Nat.le_of_ble_eq_true rfl) kmX3_push rfl kk_4_255 (tX3_push hok (by assumption)) rfl rfl (Nat.le_of_ble_eq_true rfl) ⟨Nat.le_of_ble_eq_true rfl, Nat.le_of_ble_eq_true rfl⟩ ⟨Nat.le_of_ble_eq_true rfl, Nat.le_of_ble_eq_true rfl⟩ dX4_callFrom_51) rfl rfl rfl rfl ?_
    obtain ⟨Ω_5, hw_5⟩ : ∃ z, z = fX3_push Ω_3 i2 (0 : Int32) := ⟨_, rfl⟩
    refine x_om hw_5 ?_
    rw [fX4_callFrom, wl_eq hw_1, wl_eq hw_2, wl_eq hw_3, if_pos qc_4, wl_eq hw_5] at hf
    cases hf
    exact x_vreturn C dX4_callFrom_54 rfl (Nat.le_of_ble_eq_true rfl) (Nat.le_of_ble_eq_true rfl) rfl rfl
  · refine x_iload_n (pc2 := 26) C dX4_callFrom_25 4 rfl rfl rfl ?_
    refine x_iconst (pc2 := 27) (v := 4) C dX4_callFrom_26 rfl rfl ?_
    refine x_icmp_ge (tgt := 49) (pc2 := 30) C dX4_callFrom_27 (by decide) rfl (fun qc_6 => ?_) (fun qc_6 => ?_)
    · refine x_aload_n (pc2 := 50) C dX4_callFrom_49 5 rfl rfl rfl ?_
      refine x_iconst (pc2 := 51) (v := 0) C dX4_callFrom_50 rfl rfl ?_
      refine x_ret (rest := []) (st2 := []) (pc2 := 54) (cu2 := 0) (su2 := 0) (x_cV C (by assumption) (Nat.le_of_ble_eq_true rfl) kmX3_push rfl kk_4_255 (tX3_push hok (by assumption)) rfl rfl (Nat.le_of_ble_eq_true rfl) ⟨Nat.le_of_ble_eq_true rfl, Nat.le_of_ble_eq_true rfl⟩ ⟨Nat.le_of_ble_eq_true rfl, Nat.le_of_ble_eq_true rfl⟩ dX4_callFrom_51) rfl rfl rfl rfl ?_
      obtain ⟨Ω_7, hw_7⟩ : ∃ z, z = fX3_push Ω_3 i2 (0 : Int32) := ⟨_, rfl⟩
      refine x_om hw_7 ?_
      rw [fX4_callFrom, wl_eq hw_1, wl_eq hw_2, wl_eq hw_3, if_neg qc_4, if_pos qc_6, wl_eq hw_7] at hf
      cases hf
      exact x_vreturn C dX4_callFrom_54 rfl (Nat.le_of_ble_eq_true rfl) (Nat.le_of_ble_eq_true rfl) rfl rfl
    · refine x_aload_n (pc2 := 31) C dX4_callFrom_30 3 rfl rfl rfl ?_
      rcases (Decidable.em (xR Ω_3 404 0 = sg)).symm with qg_8 | qg_8
      · exact absurd hf (by rw [fX4_callFrom, wl_eq hw_1, wl_eq hw_2, wl_eq hw_3, if_neg qc_4, if_neg qc_6, if_neg qg_8]; exact nofun)
      refine x_getM (pc2 := 34) (f := 404) (k2 := 6) (v9 := sg) C (by assumption) kf_4_33 dX4_callFrom_31 rfl rfl rfl qg_8 rfl ?_
      refine x_getR (f := 600) (k2 := 2011) (pc2 := 37) C (by assumption) kf_4_125 dX4_callFrom_34 rfl rfl rfl (rti_i rfl) rfl (fun qd_9 => ?_)
      refine x_aload_n (pc2 := 38) C dX4_callFrom_37 5 rfl rfl rfl ?_
      refine x_getI (pc2 := 41) (f := 304) C (by assumption) kf_4_242 dX4_callFrom_38 rfl rfl rfl ?_
      refine x_ret (rest := []) (st2 := [_]) (pc2 := 44) (cu2 := 0) (su2 := 0) (x_cSN C kmX10_at ke_4_129 (tX10_at hok (by assumption) rfl (by decide)) rfl rfl (Nat.le_of_ble_eq_true rfl) ⟨Nat.le_of_ble_eq_true rfl, Nat.le_of_ble_eq_true rfl⟩ ⟨Nat.le_of_ble_eq_true rfl, Nat.le_of_ble_eq_true rfl⟩ dX4_callFrom_41) rfl rfl rfl rfl ?_
      refine x_iload (pc2 := 46) C dX4_callFrom_44 1 rfl rfl ?_
      refine x_icmp_ge (tgt := 55) (pc2 := 49) C dX4_callFrom_46 (by decide) rfl (fun qc_10 => ?_) (fun qc_10 => ?_)
      · refine x_aload_n (pc2 := 56) C dX4_callFrom_55 5 rfl rfl rfl ?_
        refine x_getI (pc2 := 59) (f := 310) C (by assumption) kf_4_70 dX4_callFrom_56 rfl rfl rfl ?_
        refine x_aload_n (pc2 := 60) C dX4_callFrom_59 5 rfl rfl rfl ?_
        refine x_getI (pc2 := 63) (f := 310) C (by assumption) kf_4_70 dX4_callFrom_60 rfl rfl rfl ?_
        refine x_iconst (pc2 := 64) (v := 4) C dX4_callFrom_63 rfl rfl ?_
        refine x_idiv (pc2 := 65) C dX4_callFrom_64 (by decide +kernel) rfl ?_
        refine x_isub (pc2 := 66) C dX4_callFrom_65 rfl ?_
        refine x_istore (pc2 := 68) (lv2 := [(6, _), (5, _), (4, _), (3, _), (0, _), (1, _), (2, _)]) C dX4_callFrom_66 (by decide) rfl rfl ?_
        refine x_aload_n (pc2 := 69) C dX4_callFrom_68 4 rfl rfl rfl ?_
        refine x_iload_n (pc2 := 70) C dX4_callFrom_69 5 rfl rfl rfl ?_
        refine x_iconst (pc2 := 71) (v := 1) C dX4_callFrom_70 rfl rfl ?_
        refine x_iadd (pc2 := 72) C dX4_callFrom_71 rfl ?_
        refine x_aload_n (pc2 := 73) C dX4_callFrom_72 6 rfl rfl rfl ?_
        refine x_getI (pc2 := 76) (f := 304) C (by assumption) kf_4_242 dX4_callFrom_73 rfl rfl rfl ?_
        refine x_iload (pc2 := 78) C dX4_callFrom_76 1 rfl rfl ?_
        refine x_iload (pc2 := 80) C dX4_callFrom_78 2 rfl rfl ?_
        refine x_iload_n (pc2 := 81) C dX4_callFrom_80 3 rfl rfl rfl ?_
        refine x_iload (pc2 := 83) C dX4_callFrom_81 0 rfl rfl ?_
        rcases hq_11 : dl Ω_3 (x1 + (1 : Int32)) (xI Ω_3 304 i2 0) (((fX3_take Ω_2 i2).1) - ((fX3_take Ω_2 i2).1) / (16 : Int32) * (16 : Int32)) ((fX3_take Ω_1 i2).1) ((fX3_take Ω i2).1) ((xI Ω_3 310 i2 0) - ((xI Ω_3 310 i2 0) / (4 : Int32))) with _ | r_11
        · exact absurd hf (by rw [fX4_callFrom, wl_eq hw_1, wl_eq hw_2, wl_eq hw_3, if_neg qc_4, if_neg qc_6, if_pos qg_8, if_pos qc_10, hq_11, Option.bind_none]; exact nofun)
        refine x_ret (rest := []) (st2 := [_]) (pc2 := 86) (cu2 := 0) (su2 := 0) (x_cV C (by assumption) (Nat.le_of_ble_eq_true rfl) kmX4_deliver rfl kk_4_98 (hdl hq_11) rfl rfl (Nat.le_of_ble_eq_true rfl) ⟨Nat.le_of_ble_eq_true rfl, Nat.le_of_ble_eq_true rfl⟩ ⟨Nat.le_of_ble_eq_true rfl, Nat.le_of_ble_eq_true rfl⟩ dX4_callFrom_83) rfl rfl rfl rfl ?_
        refine x_istore (pc2 := 88) (lv2 := [(7, _), (6, _), (5, _), (4, _), (3, _), (0, _), (1, _), (2, _)]) C dX4_callFrom_86 (by decide) rfl rfl ?_
        refine x_aload_n (pc2 := 89) C dX4_callFrom_88 7 rfl rfl rfl ?_
        refine x_dup (pc2 := 90) C dX4_callFrom_89 rfl rfl ?_
        refine x_getI (pc2 := 93) (f := 310) C (by assumption) kf_4_70 dX4_callFrom_90 rfl rfl rfl ?_
        refine x_aload_n (pc2 := 94) C dX4_callFrom_93 5 rfl rfl rfl ?_
        refine x_getR (f := 401) (k2 := 2007) (pc2 := 97) C (by assumption) kf_4_11 dX4_callFrom_94 rfl rfl rfl (rti_i rfl) rfl (fun qd_12 => ?_)
        refine x_iload_n (pc2 := 98) C dX4_callFrom_97 6 rfl rfl rfl ?_
        rcases (Decidable.em (inB x1 4)).symm with qg_13 | qg_13
        · exact absurd hf (by rw [fX4_callFrom, wl_eq hw_1, wl_eq hw_2, wl_eq hw_3, if_neg qc_4, if_neg qc_6, if_pos qg_8, if_pos qc_10, hq_11, Option.bind_some, if_neg qg_13]; exact nofun)
        refine x_aald (k2 := 3) (pc2 := 99) C (by assumption) dX4_callFrom_98 rfl rfl (inB_in qg_13) rfl (eli_2007 _ _) rfl (fun qd_14 => ?_)
        refine x_getI (pc2 := 102) (f := 310) C (by assumption) kf_4_70 dX4_callFrom_99 rfl rfl rfl ?_
        refine x_iload (pc2 := 104) C dX4_callFrom_102 1 rfl rfl ?_
        refine x_isub (pc2 := 105) C dX4_callFrom_104 rfl ?_
        refine x_iadd (pc2 := 106) C dX4_callFrom_105 rfl ?_
        refine x_putI (pc2 := 109) (f := 310) C (by assumption) kf_4_70 dX4_callFrom_106 rfl rfl rfl rfl rfl ?_
        obtain ⟨Ω_15, hw_15⟩ : ∃ z, z = uI r_11.2 310 i2 0 ((xI r_11.2 310 i2 0) + ((xI r_11.2 310 x1.toNatClampNeg 0) - ((xI Ω_3 310 i2 0) - ((xI Ω_3 310 i2 0) / (4 : Int32))))) := ⟨_, rfl⟩
        refine x_om hw_15 ?_
        refine x_aload_n (pc2 := 110) C dX4_callFrom_109 7 rfl rfl rfl ?_
        refine x_iload (pc2 := 112) C dX4_callFrom_110 0 rfl rfl ?_
        refine x_if_eq (tgt := 119) (pc2 := 115) C dX4_callFrom_112 (by decide) rfl (fun qc_16 => ?_) (fun qc_16 => ?_)
        · refine x_iconst (pc2 := 120) (v := 0) C dX4_callFrom_119 rfl rfl ?_
          refine x_ret (rest := []) (st2 := []) (pc2 := 123) (cu2 := 0) (su2 := 0) (x_cV C (by assumption) (Nat.le_of_ble_eq_true rfl) kmX3_push rfl kk_4_255 (tX3_push hok (by assumption)) rfl rfl (Nat.le_of_ble_eq_true rfl) ⟨Nat.le_of_ble_eq_true rfl, Nat.le_of_ble_eq_true rfl⟩ ⟨Nat.le_of_ble_eq_true rfl, Nat.le_of_ble_eq_true rfl⟩ dX4_callFrom_120) rfl rfl rfl rfl ?_
          obtain ⟨Ω_17, hw_17⟩ : ∃ z, z = fX3_push Ω_15 i2 (0 : Int32) := ⟨_, rfl⟩
          refine x_om hw_17 ?_
          rw [fX4_callFrom, wl_eq hw_1, wl_eq hw_2, wl_eq hw_3, if_neg qc_4, if_neg qc_6, if_pos qg_8, if_pos qc_10, hq_11, Option.bind_some, if_pos qg_13, wl_eq hw_15, if_pos qc_16, wl_eq hw_17] at hf
          cases hf
          exact x_vreturn C dX4_callFrom_123 rfl (Nat.le_of_ble_eq_true rfl) (Nat.le_of_ble_eq_true rfl) rfl rfl
        · refine x_iconst (pc2 := 116) (v := 1) C dX4_callFrom_115 rfl rfl ?_
          refine x_goto (tgt := 120) C dX4_callFrom_116 (by decide) ?_
          refine x_ret (rest := []) (st2 := []) (pc2 := 123) (cu2 := 0) (su2 := 0) (x_cV C (by assumption) (Nat.le_of_ble_eq_true rfl) kmX3_push rfl kk_4_255 (tX3_push hok (by assumption)) rfl rfl (Nat.le_of_ble_eq_true rfl) ⟨Nat.le_of_ble_eq_true rfl, Nat.le_of_ble_eq_true rfl⟩ ⟨Nat.le_of_ble_eq_true rfl, Nat.le_of_ble_eq_true rfl⟩ dX4_callFrom_120) rfl rfl rfl rfl ?_
          obtain ⟨Ω_18, hw_18⟩ : ∃ z, z = fX3_push Ω_15 i2 (1 : Int32) := ⟨_, rfl⟩
          refine x_om hw_18 ?_
          rw [fX4_callFrom, wl_eq hw_1, wl_eq hw_2, wl_eq hw_3, if_neg qc_4, if_neg qc_6, if_pos qg_8, if_pos qc_10, hq_11, Option.bind_some, if_pos qg_13, wl_eq hw_15, if_neg qc_16, wl_eq hw_18] at hf
          cases hf
          exact x_vreturn C dX4_callFrom_123 rfl (Nat.le_of_ble_eq_true rfl) (Nat.le_of_ble_eq_true rfl) rfl rfl
      · refine x_aload_n (pc2 := 50) C dX4_callFrom_49 5 rfl rfl rfl ?_
        refine x_iconst (pc2 := 51) (v := 0) C dX4_callFrom_50 rfl rfl ?_
        refine x_ret (rest := []) (st2 := []) (pc2 := 54) (cu2 := 0) (su2 := 0) (x_cV C (by assumption) (Nat.le_of_ble_eq_true rfl) kmX3_push rfl kk_4_255 (tX3_push hok (by assumption)) rfl rfl (Nat.le_of_ble_eq_true rfl) ⟨Nat.le_of_ble_eq_true rfl, Nat.le_of_ble_eq_true rfl⟩ ⟨Nat.le_of_ble_eq_true rfl, Nat.le_of_ble_eq_true rfl⟩ dX4_callFrom_51) rfl rfl rfl rfl ?_
        obtain ⟨Ω_19, hw_19⟩ : ∃ z, z = fX3_push Ω_3 i2 (0 : Int32) := ⟨_, rfl⟩
        refine x_om hw_19 ?_
        rw [fX4_callFrom, wl_eq hw_1, wl_eq hw_2, wl_eq hw_3, if_neg qc_4, if_neg qc_6, if_pos qg_8, if_neg qc_10, wl_eq hw_19] at hf
        cases hf
        exact x_vreturn C dX4_callFrom_54 rfl (Nat.le_of_ble_eq_true rfl) (Nat.le_of_ble_eq_true rfl) rfl rfl
set_option maxRecDepth 20000 in
theorem lX4_runProgram_l2_1 {G : XG} (hok : XK G) {B : XB} {b : Nat} {sg : Nat} {dl : XO → Int32 → Int32 → Int32 → Int32 → Int32 → Int32 → Option (Int32 × XO)} {y1 : Int32} {y2 : Nat}  (hf0 : dm G 4 0) (hf2 : dm G 3 y2) (db : dm G 0 b) (ds : dm G 6 sg) (hdl : ∀ {Ω : XO} {x1 x2 x3 x4 x5 x6 : Int32} {r : Int32 × XO}, dl Ω x1 x2 x3 x4 x5 x6 = some r → XM G yX4_deliver cX4_deliver 10 ((some FieldType.boolean)) (RM 4 0) [.ref (ad G 4 0), .int x1, .int x2, .int x3, .int x4, .int x5, .int x6] Ω (.inl (some (.int r.1))) r.2) {T : Option Value ⊕ String} {Ω9 : XO} (C : XC G B cX4_runProgram RX4 (RM 6 0) 7 ((some FieldType.boolean)) T Ω9) : ∀ (n : Nat) (y3 : Int32) (Ω : XO) {r : ((Int32 × XO) ⊕ (Int32 × XO))}, fX4_runProgram_l2 b sg dl y1 y2 n y3 Ω = some r → (∀ v, r = .inl v → T = (.inl (some (.int (v.1)))) ∧ Ω9 = v.2) → (∀ q, r = .inr q → (XW G B 7 202 [] [] q.2 0 0)) → XW G B 7 2 [(3, .int (y3)), (0, .ref (ad G 4 (0))), (1, .int (y1)), (2, .ref (ad G 3 (y2)))] [] Ω 0 0 := by
  intro n
  induction n with
  | zero => intro y3 Ω r hf; exact absurd hf (by rw [fX4_runProgram_l2]; exact nofun)
  | succ n ih =>
    intro y3 Ω r hf hk hk2
    refine x_iload_n (pc2 := 3) C dX4_runProgram_2 0 rfl rfl rfl ?_
    refine x_ldc (pc2 := 5) C kc_4_189 dX4_runProgram_3 rfl ?_
    refine x_icmp_ge (tgt := 202) (pc2 := 8) C dX4_runProgram_5 (by decide) rfl (fun qc_1 => ?_) (fun qc_1 => ?_)
    · rw [fX4_runProgram_l2, if_pos qc_1] at hf
      exact x_sub (lv2 := []) C [] rfl (hk2 _ (Option.some.inj hf).symm)
    · refine x_aload_n (pc2 := 9) C dX4_runProgram_8 3 rfl rfl rfl ?_
      refine x_getI (pc2 := 12) (f := 309) C (by assumption) kf_4_190 dX4_runProgram_9 rfl rfl rfl ?_
      refine x_aload_n (pc2 := 13) C dX4_runProgram_12 1 rfl rfl rfl ?_
      refine x_getR (f := 400) (k2 := 5) (pc2 := 16) C (by assumption) kf_4_34 dX4_runProgram_13 rfl rfl rfl (rti_i rfl) rfl (fun qd_2 => ?_)
      refine x_aload_n (pc2 := 17) C dX4_runProgram_16 3 rfl rfl rfl ?_
      refine x_getI (pc2 := 20) (f := 308) C (by assumption) kf_4_193 dX4_runProgram_17 rfl rfl rfl ?_
      refine x_ret (rest := [_]) (st2 := [_, _]) (pc2 := 23) (cu2 := 0) (su2 := 0) (x_cV C (by assumption) (Nat.le_of_ble_eq_true rfl) kmX5_lengthOf rfl kk_4_196 (tX5_lengthOf hok (by assumption)) rfl rfl (Nat.le_of_ble_eq_true rfl) ⟨Nat.le_of_ble_eq_true rfl, Nat.le_of_ble_eq_true rfl⟩ ⟨Nat.le_of_ble_eq_true rfl, Nat.le_of_ble_eq_true rfl⟩ dX4_runProgram_20) rfl rfl rfl rfl ?_
      refine x_icmp_lt (tgt := 28) (pc2 := 26) C dX4_runProgram_23 (by decide) rfl (fun qc_3 => ?_) (fun qc_3 => ?_)
      · refine x_aload_n (pc2 := 29) C dX4_runProgram_28 1 rfl rfl rfl ?_
        refine x_getR (f := 400) (k2 := 5) (pc2 := 32) C (by assumption) kf_4_34 dX4_runProgram_29 rfl rfl rfl (rti_i rfl) rfl (fun qd_4 => ?_)
        refine x_aload_n (pc2 := 33) C dX4_runProgram_32 3 rfl rfl rfl ?_
        refine x_getI (pc2 := 36) (f := 308) C (by assumption) kf_4_193 dX4_runProgram_33 rfl rfl rfl ?_
        refine x_aload_n (pc2 := 37) C dX4_runProgram_36 3 rfl rfl rfl ?_
        refine x_getI (pc2 := 40) (f := 309) C (by assumption) kf_4_190 dX4_runProgram_37 rfl rfl rfl ?_
        refine x_ret (rest := []) (st2 := [_]) (pc2 := 43) (cu2 := 0) (su2 := 0) (x_cV C (by assumption) (Nat.le_of_ble_eq_true rfl) kmX5_operationAt rfl kk_4_201 (tX5_operationAt hok (by assumption)) rfl rfl (Nat.le_of_ble_eq_true rfl) ⟨Nat.le_of_ble_eq_true rfl, Nat.le_of_ble_eq_true rfl⟩ ⟨Nat.le_of_ble_eq_true rfl, Nat.le_of_ble_eq_true rfl⟩ dX4_runProgram_40) rfl rfl rfl rfl ?_
        refine x_istore (pc2 := 45) (lv2 := [(4, _), (3, _), (0, _), (1, _), (2, _)]) C dX4_runProgram_43 (by decide) rfl rfl ?_
        refine x_aload_n (pc2 := 46) C dX4_runProgram_45 2 rfl rfl rfl ?_
        refine x_getR (f := 400) (k2 := 5) (pc2 := 49) C (by assumption) kf_4_34 dX4_runProgram_46 rfl rfl rfl (rti_i rfl) rfl (fun qd_5 => ?_)
        refine x_aload_n (pc2 := 50) C dX4_runProgram_49 4 rfl rfl rfl ?_
        refine x_getI (pc2 := 53) (f := 308) C (by assumption) kf_4_193 dX4_runProgram_50 rfl rfl rfl ?_
        refine x_aload_n (pc2 := 54) C dX4_runProgram_53 4 rfl rfl rfl ?_
        refine x_getI (pc2 := 57) (f := 309) C (by assumption) kf_4_190 dX4_runProgram_54 rfl rfl rfl ?_
        refine x_ret (rest := []) (st2 := [_]) (pc2 := 60) (cu2 := 0) (su2 := 0) (x_cV C (by assumption) (Nat.le_of_ble_eq_true rfl) kmX5_argumentAt rfl kk_4_204 (tX5_argumentAt hok (by assumption)) rfl rfl (Nat.le_of_ble_eq_true rfl) ⟨Nat.le_of_ble_eq_true rfl, Nat.le_of_ble_eq_true rfl⟩ ⟨Nat.le_of_ble_eq_true rfl, Nat.le_of_ble_eq_true rfl⟩ dX4_runProgram_57) rfl rfl rfl rfl ?_
        refine x_istore (pc2 := 62) (lv2 := [(5, _), (4, _), (3, _), (0, _), (1, _), (2, _)]) C dX4_runProgram_60 (by decide) rfl rfl ?_
        refine x_getsN (pc2 := 65) (q := 1) C (by decide) kg_4_207 dX4_runProgram_62 rfl ?_
        refine x_iload (pc2 := 67) C dX4_runProgram_65 1 rfl rfl ?_
        refine x_ret (rest := []) (st2 := [_]) (pc2 := 70) (cu2 := 0) (su2 := 0) (x_cSN C kmX10_at ke_4_129 (tX10_at_s hok (by decide)) rfl rfl (Nat.le_of_ble_eq_true rfl) ⟨Nat.le_of_ble_eq_true rfl, Nat.le_of_ble_eq_true rfl⟩ ⟨Nat.le_of_ble_eq_true rfl, Nat.le_of_ble_eq_true rfl⟩ dX4_runProgram_67) rfl rfl rfl rfl ?_
        refine x_aload_n (pc2 := 71) C dX4_runProgram_70 3 rfl rfl rfl ?_
        refine x_aload_n (pc2 := 72) C dX4_runProgram_71 5 rfl rfl rfl ?_
        refine x_iload (pc2 := 74) C dX4_runProgram_72 1 rfl rfl ?_
        refine x_iload (pc2 := 76) C dX4_runProgram_74 0 rfl rfl ?_
        rcases hq_6 : fX4_extraGas Ω b sg y2 (fX5_operationAt Ω 0 (xI Ω 308 y2 0) (xI Ω 309 y2 0)) (fX5_argumentAt Ω 0 (xI Ω 308 y2 0) (xI Ω 309 y2 0)) with _ | r_6
        · exact absurd hf (by rw [fX4_runProgram_l2, if_neg qc_1, if_pos qc_3, hq_6, Option.bind_none]; exact nofun)
        refine x_ret (rest := [_]) (st2 := [_, _]) (pc2 := 79) (cu2 := 0) (su2 := 0) (x_cV C (by assumption) (Nat.le_of_ble_eq_true rfl) kmX4_extraGas rfl kk_4_210 (tX4_extraGas hok (by assumption) (by assumption) (by assumption) (by assumption)  hq_6) rfl rfl (Nat.le_of_ble_eq_true rfl) ⟨Nat.le_of_ble_eq_true rfl, Nat.le_of_ble_eq_true rfl⟩ ⟨Nat.le_of_ble_eq_true rfl, Nat.le_of_ble_eq_true rfl⟩ dX4_runProgram_76) rfl rfl rfl rfl ?_
        refine x_iadd (pc2 := 80) C dX4_runProgram_79 rfl ?_
        refine x_istore (pc2 := 82) (lv2 := [(6, _), (5, _), (4, _), (3, _), (0, _), (1, _), (2, _)]) C dX4_runProgram_80 (by decide) rfl rfl ?_
        refine x_aload_n (pc2 := 83) C dX4_runProgram_82 6 rfl rfl rfl ?_
        refine x_iload (pc2 := 85) C dX4_runProgram_83 2 rfl rfl ?_
        refine x_ret (rest := []) (st2 := [_]) (pc2 := 88) (cu2 := 0) (su2 := 0) (x_cV C (by assumption) (Nat.le_of_ble_eq_true rfl) kmX3_heapAllows rfl kk_4_214 (tX3_heapAllows hok (by assumption)) rfl rfl (Nat.le_of_ble_eq_true rfl) ⟨Nat.le_of_ble_eq_true rfl, Nat.le_of_ble_eq_true rfl⟩ ⟨Nat.le_of_ble_eq_true rfl, Nat.le_of_ble_eq_true rfl⟩ dX4_runProgram_85) rfl rfl rfl rfl ?_
        refine x_if_eq (tgt := 100) (pc2 := 91) C dX4_runProgram_88 (by decide) rfl (fun qc_7 => ?_) (fun qc_7 => ?_)
        · refine x_aload_n (pc2 := 101) C dX4_runProgram_100 6 rfl rfl rfl ?_
          refine x_iconst (pc2 := 102) (v := 0) C dX4_runProgram_101 rfl rfl ?_
          refine x_putI (pc2 := 105) (f := 310) C (by assumption) kf_4_70 dX4_runProgram_102 rfl rfl rfl rfl rfl ?_
          obtain ⟨Ω_8, hw_8⟩ : ∃ z, z = uI Ω 310 y2 0 (0 : Int32) := ⟨_, rfl⟩
          refine x_om hw_8 ?_
          refine x_iconst (pc2 := 106) (v := 0) C dX4_runProgram_105 rfl rfl ?_
          rw [fX4_runProgram_l2, if_neg qc_1, if_pos qc_3, hq_6, Option.bind_some, if_pos qc_7, wl_eq hw_8] at hf
          obtain ⟨hT9, hW9⟩ := hk _ (Option.some.inj hf).symm
          exact x_zreturn C dX4_runProgram_106 rfl (by first | exact Or.inl rfl | exact Or.inr rfl) (Nat.le_of_ble_eq_true rfl) (Nat.le_of_ble_eq_true rfl) hT9 hW9
        · refine x_iload (pc2 := 93) C dX4_runProgram_91 0 rfl rfl ?_
          refine x_aload_n (pc2 := 94) C dX4_runProgram_93 6 rfl rfl rfl ?_
          refine x_getI (pc2 := 97) (f := 310) C (by assumption) kf_4_70 dX4_runProgram_94 rfl rfl rfl ?_
          refine x_icmp_le (tgt := 107) (pc2 := 100) C dX4_runProgram_97 (by decide) rfl (fun qc_9 => ?_) (fun qc_9 => ?_)
          · refine x_aload_n (pc2 := 108) C dX4_runProgram_107 6 rfl rfl rfl ?_
            refine x_dup (pc2 := 109) C dX4_runProgram_108 rfl rfl ?_
            refine x_getI (pc2 := 112) (f := 310) C (by assumption) kf_4_70 dX4_runProgram_109 rfl rfl rfl ?_
            refine x_iload (pc2 := 114) C dX4_runProgram_112 0 rfl rfl ?_
            refine x_isub (pc2 := 115) C dX4_runProgram_114 rfl ?_
            refine x_putI (pc2 := 118) (f := 310) C (by assumption) kf_4_70 dX4_runProgram_115 rfl rfl rfl rfl rfl ?_
            obtain ⟨Ω_10, hw_10⟩ : ∃ z, z = uI Ω 310 y2 0 ((xI Ω 310 y2 0) - ((sTb 1 (fX5_operationAt Ω 0 (xI Ω 308 y2 0) (xI Ω 309 y2 0))) + r_6)) := ⟨_, rfl⟩
            refine x_om hw_10 ?_
            refine x_aload_n (pc2 := 119) C dX4_runProgram_118 6 rfl rfl rfl ?_
            refine x_dup (pc2 := 120) C dX4_runProgram_119 rfl rfl ?_
            refine x_getI (pc2 := 123) (f := 309) C (by assumption) kf_4_190 dX4_runProgram_120 rfl rfl rfl ?_
            refine x_iconst (pc2 := 124) (v := 1) C dX4_runProgram_123 rfl rfl ?_
            refine x_iadd (pc2 := 125) C dX4_runProgram_124 rfl ?_
            refine x_putI (pc2 := 128) (f := 309) C (by assumption) kf_4_190 dX4_runProgram_125 rfl rfl rfl rfl rfl ?_
            obtain ⟨Ω_11, hw_11⟩ : ∃ z, z = uI Ω_10 309 y2 0 ((xI Ω_10 309 y2 0) + (1 : Int32)) := ⟨_, rfl⟩
            refine x_om hw_11 ?_
            refine x_iload (pc2 := 130) C dX4_runProgram_128 2 rfl rfl ?_
            refine x_bipush (pc2 := 132) (v := 22) C dX4_runProgram_130 rfl rfl ?_
            refine x_icmp_lt (tgt := 143) (pc2 := 135) C dX4_runProgram_132 (by decide) rfl (fun qc_12 => ?_) (fun qc_12 => ?_)
            · refine x_iload (pc2 := 145) C dX4_runProgram_143 2 rfl rfl ?_
              refine x_bipush (pc2 := 147) (v := 19) C dX4_runProgram_145 rfl rfl ?_
              refine x_icmp_ne (tgt := 159) (pc2 := 150) C dX4_runProgram_147 (by decide) rfl (fun qc_13 => ?_) (fun qc_13 => ?_)
              · refine x_iload (pc2 := 161) C dX4_runProgram_159 2 rfl rfl ?_
                refine x_bipush (pc2 := 163) (v := 21) C dX4_runProgram_161 rfl rfl ?_
                refine x_icmp_ne (tgt := 176) (pc2 := 166) C dX4_runProgram_163 (by decide) rfl (fun qc_14 => ?_) (fun qc_14 => ?_)
                · refine x_aload_n (pc2 := 177) C dX4_runProgram_176 4 rfl rfl rfl ?_
                  refine x_aload_n (pc2 := 178) C dX4_runProgram_177 6 rfl rfl rfl ?_
                  refine x_iload (pc2 := 180) C dX4_runProgram_178 2 rfl rfl ?_
                  refine x_iload (pc2 := 182) C dX4_runProgram_180 1 rfl rfl ?_
                  rcases hq_15 : fX4_touchState Ω_11 b sg y2 (fX5_operationAt Ω 0 (xI Ω 308 y2 0) (xI Ω 309 y2 0)) (fX5_argumentAt Ω 0 (xI Ω 308 y2 0) (xI Ω 309 y2 0)) with _ | r_15
                  · exact absurd hf (by rw [fX4_runProgram_l2, if_neg qc_1, if_pos qc_3, hq_6, Option.bind_some, if_neg qc_7, if_pos qc_9, wl_eq hw_10, wl_eq hw_11, if_pos qc_12, if_neg qc_13, if_neg qc_14, hq_15, Option.bind_none]; exact nofun)
                  refine x_ret (rest := []) (st2 := [_]) (pc2 := 185) (cu2 := 0) (su2 := 0) (x_cV C (by assumption) (Nat.le_of_ble_eq_true rfl) kmX4_touchState rfl kk_4_229 (tX4_touchState hok (by assumption) (by assumption) (by assumption) (by assumption)  hq_15) rfl rfl (Nat.le_of_ble_eq_true rfl) ⟨Nat.le_of_ble_eq_true rfl, Nat.le_of_ble_eq_true rfl⟩ ⟨Nat.le_of_ble_eq_true rfl, Nat.le_of_ble_eq_true rfl⟩ dX4_runProgram_182) rfl rfl rfl rfl ?_
                  refine x_if_ne (tgt := 196) (pc2 := 188) C dX4_runProgram_185 (by decide) rfl (fun qc_16 => ?_) (fun qc_16 => ?_)
                  · refine x_iinc (pc2 := 199) (v := y3 + 1) (lv2 := [(3, _), (6, _), (5, _), (4, _), (0, _), (1, _), (2, _)]) C dX4_runProgram_196 3 rfl rfl (by decide) rfl rfl ?_
                    refine x_goto (tgt := 2) C dX4_runProgram_199 (by decide) ?_
                    exact x_sub (lv2 := [(3, _), (0, _), (1, _), (2, _)]) C [0, 4, 5, 6] rfl (ih (y3 + 1) r_15.2 (by rw [fX4_runProgram_l2, if_neg qc_1, if_pos qc_3, hq_6, Option.bind_some, if_neg qc_7, if_pos qc_9, wl_eq hw_10, wl_eq hw_11, if_pos qc_12, if_neg qc_13, if_neg qc_14, hq_15, Option.bind_some, if_neg qc_16] at hf; exact hf) hk hk2)
                  · refine x_aload_n (pc2 := 189) C dX4_runProgram_188 6 rfl rfl rfl ?_
                    refine x_iload (pc2 := 191) C dX4_runProgram_189 2 rfl rfl ?_
                    refine x_iload (pc2 := 193) C dX4_runProgram_191 1 rfl rfl ?_
                    refine x_ret (rest := []) (st2 := []) (pc2 := 196) (cu2 := 0) (su2 := 0) (x_cV C (by assumption) (Nat.le_of_ble_eq_true rfl) kmX3_perform rfl kk_4_233 (tX3_perform hok (by assumption)) rfl rfl (Nat.le_of_ble_eq_true rfl) ⟨Nat.le_of_ble_eq_true rfl, Nat.le_of_ble_eq_true rfl⟩ ⟨Nat.le_of_ble_eq_true rfl, Nat.le_of_ble_eq_true rfl⟩ dX4_runProgram_193) rfl rfl rfl rfl ?_
                    obtain ⟨Ω_17, hw_17⟩ : ∃ z, z = fX3_perform r_15.2 y2 (fX5_operationAt Ω 0 (xI Ω 308 y2 0) (xI Ω 309 y2 0)) (fX5_argumentAt Ω 0 (xI Ω 308 y2 0) (xI Ω 309 y2 0)) := ⟨_, rfl⟩
                    refine x_om hw_17 ?_
                    refine x_iinc (pc2 := 199) (v := y3 + 1) (lv2 := [(3, _), (6, _), (5, _), (4, _), (0, _), (1, _), (2, _)]) C dX4_runProgram_196 3 rfl rfl (by decide) rfl rfl ?_
                    refine x_goto (tgt := 2) C dX4_runProgram_199 (by decide) ?_
                    exact x_sub (lv2 := [(3, _), (0, _), (1, _), (2, _)]) C [0, 4, 5, 6] rfl (ih (y3 + 1) Ω_17 (by rw [fX4_runProgram_l2, if_neg qc_1, if_pos qc_3, hq_6, Option.bind_some, if_neg qc_7, if_pos qc_9, wl_eq hw_10, wl_eq hw_11, if_pos qc_12, if_neg qc_13, if_neg qc_14, hq_15, Option.bind_some, if_pos qc_16, wl_eq hw_17] at hf; exact hf) hk hk2)
                · refine x_aload_n (pc2 := 167) C dX4_runProgram_166 4 rfl rfl rfl ?_
                  refine x_aload_n (pc2 := 168) C dX4_runProgram_167 6 rfl rfl rfl ?_
                  refine x_iload (pc2 := 170) C dX4_runProgram_168 1 rfl rfl ?_
                  rcases hq_18 : fX4_makeFrom Ω_11 b sg y2 (fX5_argumentAt Ω 0 (xI Ω 308 y2 0) (xI Ω 309 y2 0)) with _ | r_18
                  · exact absurd hf (by rw [fX4_runProgram_l2, if_neg qc_1, if_pos qc_3, hq_6, Option.bind_some, if_neg qc_7, if_pos qc_9, wl_eq hw_10, wl_eq hw_11, if_pos qc_12, if_neg qc_13, if_pos qc_14, hq_18, Option.bind_none]; exact nofun)
                  refine x_ret (rest := []) (st2 := []) (pc2 := 173) (cu2 := 0) (su2 := 0) (x_cV C (by assumption) (Nat.le_of_ble_eq_true rfl) kmX4_makeFrom rfl kk_4_225 (tX4_makeFrom hok (by assumption) (by assumption) (by assumption) (by assumption)  hq_18) rfl rfl (Nat.le_of_ble_eq_true rfl) ⟨Nat.le_of_ble_eq_true rfl, Nat.le_of_ble_eq_true rfl⟩ ⟨Nat.le_of_ble_eq_true rfl, Nat.le_of_ble_eq_true rfl⟩ dX4_runProgram_170) rfl rfl rfl rfl ?_
                  refine x_goto (tgt := 196) C dX4_runProgram_173 (by decide) ?_
                  refine x_iinc (pc2 := 199) (v := y3 + 1) (lv2 := [(3, _), (6, _), (5, _), (4, _), (0, _), (1, _), (2, _)]) C dX4_runProgram_196 3 rfl rfl (by decide) rfl rfl ?_
                  refine x_goto (tgt := 2) C dX4_runProgram_199 (by decide) ?_
                  exact x_sub (lv2 := [(3, _), (0, _), (1, _), (2, _)]) C [0, 4, 5, 6] rfl (ih (y3 + 1) r_18 (by rw [fX4_runProgram_l2, if_neg qc_1, if_pos qc_3, hq_6, Option.bind_some, if_neg qc_7, if_pos qc_9, wl_eq hw_10, wl_eq hw_11, if_pos qc_12, if_neg qc_13, if_pos qc_14, hq_18, Option.bind_some] at hf; exact hf) hk hk2)
              · refine x_aload_n (pc2 := 151) C dX4_runProgram_150 4 rfl rfl rfl ?_
                refine x_iload_n (pc2 := 152) C dX4_runProgram_151 5 rfl rfl rfl ?_
                refine x_aload_n (pc2 := 153) C dX4_runProgram_152 6 rfl rfl rfl ?_
                rcases hq_19 : fX4_callFrom Ω_11 b sg dl y1 y2 with _ | r_19
                · exact absurd hf (by rw [fX4_runProgram_l2, if_neg qc_1, if_pos qc_3, hq_6, Option.bind_some, if_neg qc_7, if_pos qc_9, wl_eq hw_10, wl_eq hw_11, if_pos qc_12, if_pos qc_13, hq_19, Option.bind_none]; exact nofun)
                refine x_ret (rest := []) (st2 := []) (pc2 := 156) (cu2 := 0) (su2 := 0) (x_cV C (by assumption) (Nat.le_of_ble_eq_true rfl) kmX4_callFrom rfl kk_4_221 (tX4_callFrom_1 hok (by assumption) (by assumption) (by assumption) (by assumption)  hdl hq_19) rfl rfl (Nat.le_of_ble_eq_true rfl) ⟨Nat.le_of_ble_eq_true rfl, Nat.le_of_ble_eq_true rfl⟩ ⟨Nat.le_of_ble_eq_true rfl, Nat.le_of_ble_eq_true rfl⟩ dX4_runProgram_153) rfl rfl rfl rfl ?_
                refine x_goto (tgt := 196) C dX4_runProgram_156 (by decide) ?_
                refine x_iinc (pc2 := 199) (v := y3 + 1) (lv2 := [(3, _), (6, _), (5, _), (4, _), (0, _), (1, _), (2, _)]) C dX4_runProgram_196 3 rfl rfl (by decide) rfl rfl ?_
                refine x_goto (tgt := 2) C dX4_runProgram_199 (by decide) ?_
                exact x_sub (lv2 := [(3, _), (0, _), (1, _), (2, _)]) C [0, 4, 5, 6] rfl (ih (y3 + 1) r_19 (by rw [fX4_runProgram_l2, if_neg qc_1, if_pos qc_3, hq_6, Option.bind_some, if_neg qc_7, if_pos qc_9, wl_eq hw_10, wl_eq hw_11, if_pos qc_12, if_pos qc_13, hq_19, Option.bind_some] at hf; exact hf) hk hk2)
            · refine x_aload_n (pc2 := 136) C dX4_runProgram_135 4 rfl rfl rfl ?_
              refine x_aload_n (pc2 := 137) C dX4_runProgram_136 6 rfl rfl rfl ?_
              refine x_iload (pc2 := 139) C dX4_runProgram_137 2 rfl rfl ?_
              rcases hq_20 : fX4_finish Ω_11 b sg y2 (fX5_operationAt Ω 0 (xI Ω 308 y2 0) (xI Ω 309 y2 0)) with _ | r_20
              · exact absurd hf (by rw [fX4_runProgram_l2, if_neg qc_1, if_pos qc_3, hq_6, Option.bind_some, if_neg qc_7, if_pos qc_9, wl_eq hw_10, wl_eq hw_11, if_neg qc_12, hq_20, Option.bind_none]; exact nofun)
              refine x_ret (rest := []) (st2 := [_]) (pc2 := 142) (cu2 := 0) (su2 := 0) (x_cV C (by assumption) (Nat.le_of_ble_eq_true rfl) kmX4_finish rfl kk_4_217 (tX4_finish hok (by assumption) (by assumption) (by assumption) (by assumption)  hq_20) rfl rfl (Nat.le_of_ble_eq_true rfl) ⟨Nat.le_of_ble_eq_true rfl, Nat.le_of_ble_eq_true rfl⟩ ⟨Nat.le_of_ble_eq_true rfl, Nat.le_of_ble_eq_true rfl⟩ dX4_runProgram_139) rfl rfl rfl rfl ?_
              rcases (Decidable.em (r_20.1 = 0 ∨ r_20.1 = 1)).symm with qg_21 | qg_21
              · exact absurd hf (by rw [fX4_runProgram_l2, if_neg qc_1, if_pos qc_3, hq_6, Option.bind_some, if_neg qc_7, if_pos qc_9, wl_eq hw_10, wl_eq hw_11, if_neg qc_12, hq_20, Option.bind_some, if_neg qg_21]; exact nofun)
              rw [fX4_runProgram_l2, if_neg qc_1, if_pos qc_3, hq_6, Option.bind_some, if_neg qc_7, if_pos qc_9, wl_eq hw_10, wl_eq hw_11, if_neg qc_12, hq_20, Option.bind_some, if_pos qg_21] at hf
              obtain ⟨hT9, hW9⟩ := hk _ (Option.some.inj hf).symm
              exact x_zreturn C dX4_runProgram_142 rfl qg_21 (Nat.le_of_ble_eq_true rfl) (Nat.le_of_ble_eq_true rfl) hT9 hW9
          · refine x_aload_n (pc2 := 101) C dX4_runProgram_100 6 rfl rfl rfl ?_
            refine x_iconst (pc2 := 102) (v := 0) C dX4_runProgram_101 rfl rfl ?_
            refine x_putI (pc2 := 105) (f := 310) C (by assumption) kf_4_70 dX4_runProgram_102 rfl rfl rfl rfl rfl ?_
            obtain ⟨Ω_22, hw_22⟩ : ∃ z, z = uI Ω 310 y2 0 (0 : Int32) := ⟨_, rfl⟩
            refine x_om hw_22 ?_
            refine x_iconst (pc2 := 106) (v := 0) C dX4_runProgram_105 rfl rfl ?_
            rw [fX4_runProgram_l2, if_neg qc_1, if_pos qc_3, hq_6, Option.bind_some, if_neg qc_7, if_neg qc_9, wl_eq hw_22] at hf
            obtain ⟨hT9, hW9⟩ := hk _ (Option.some.inj hf).symm
            exact x_zreturn C dX4_runProgram_106 rfl (by first | exact Or.inl rfl | exact Or.inr rfl) (Nat.le_of_ble_eq_true rfl) (Nat.le_of_ble_eq_true rfl) hT9 hW9
      · refine x_iconst (pc2 := 27) (v := 1) C dX4_runProgram_26 rfl rfl ?_
        rw [fX4_runProgram_l2, if_neg qc_1, if_neg qc_3] at hf
        obtain ⟨hT9, hW9⟩ := hk _ (Option.some.inj hf).symm
        exact x_zreturn C dX4_runProgram_27 rfl (by first | exact Or.inl rfl | exact Or.inr rfl) (Nat.le_of_ble_eq_true rfl) (Nat.le_of_ble_eq_true rfl) hT9 hW9
set_option maxRecDepth 20000 in
theorem tX4_runProgram_1 {G : XG} (hok : XK G) {b : Nat} {sg : Nat} {dl : XO → Int32 → Int32 → Int32 → Int32 → Int32 → Int32 → Option (Int32 × XO)} {x1 : Int32} {i2 : Nat} {Ω : XO} (hd0 : dm G 4 0) (hd2 : dm G 3 i2) (db : dm G 0 b) (ds : dm G 6 sg) (hdl : ∀ {Ω : XO} {x1 x2 x3 x4 x5 x6 : Int32} {r : Int32 × XO}, dl Ω x1 x2 x3 x4 x5 x6 = some r → XM G yX4_deliver cX4_deliver 10 ((some FieldType.boolean)) (RM 4 0) [.ref (ad G 4 0), .int x1, .int x2, .int x3, .int x4, .int x5, .int x6] Ω (.inl (some (.int r.1))) r.2) {r : Int32 × XO} (hf : fX4_runProgram Ω b sg dl x1 i2 = some r) : XM G yX4_runProgram cX4_runProgram 7 ((some FieldType.boolean)) (RM 6 0) [.ref (ad G 4 0), .int x1, .ref (ad G 3 i2)] Ω (.inl (some (.int (r.1)))) r.2 := by
  refine x_start (lv := [(0, .ref (ad G 4 0)), (1, .int x1), (2, .ref (ad G 3 i2))]) (own := RX4) hok (by decide +kernel) rfl (Nat.le_of_ble_eq_true rfl) rfl (fun B C => ?_)
  refine x_iconst (pc2 := 1) (v := 0) C dX4_runProgram_0 rfl rfl ?_
  refine x_istore_n (pc2 := 2) (lv2 := [(3, _), (0, _), (1, _), (2, _)]) C dX4_runProgram_1 rfl (by decide) rfl rfl ?_
  rcases hq_1 : fX4_runProgram_l2 b sg dl x1 i2 1000001 (0 : Int32) Ω with _ | (v_1 | q_1)
  · exact absurd hf (by rw [fX4_runProgram, hq_1, Option.bind_none]; exact nofun)
  · exact x_sub (lv2 := [(3, _), (0, _), (1, _), (2, _)]) C [0, 1, 2, 3] rfl (lX4_runProgram_l2_1 hok (by assumption) (by assumption) (by assumption) (by assumption) hdl C 1000001 (0 : Int32) Ω hq_1 (fun v9 h9 => by cases h9; rw [fX4_runProgram, hq_1, Option.bind_some, Sum.elim_inl] at hf; cases hf; exact ⟨rfl, rfl⟩) (fun _ h9 => nomatch h9))
  refine x_sub (lv2 := [(3, _), (0, _), (1, _), (2, _)]) C [0, 1, 2, 3] rfl (lX4_runProgram_l2_1 hok (by assumption) (by assumption) (by assumption) (by assumption) hdl C 1000001 (0 : Int32) Ω hq_1 (fun _ h9 => nomatch h9) (fun q9 h9 => ?_))
  cases h9
  refine x_iconst (pc2 := 203) (v := 0) C dX4_runProgram_202 rfl rfl ?_
  rw [fX4_runProgram, hq_1, Option.bind_some, Sum.elim_inr] at hf
  cases hf
  exact x_zreturn C dX4_runProgram_203 rfl (by first | exact Or.inl rfl | exact Or.inr rfl) (Nat.le_of_ble_eq_true rfl) (Nat.le_of_ble_eq_true rfl) rfl rfl
set_option maxRecDepth 20000 in
theorem tX4_deliver_s_1 {G : XG} (hok : XK G) {b : Nat} {sg : Nat} {dl : XO → Int32 → Int32 → Int32 → Int32 → Int32 → Int32 → Option (Int32 × XO)} {x1 : Int32} {x2 : Int32} {x3 : Int32} {x4 : Int32} {x5 : Int32} {x6 : Int32} {Ω : XO} (hd0 : dm G 4 0) (db : dm G 0 b) (ds : dm G 6 sg) (hdl : ∀ {Ω : XO} {x1 x2 x3 x4 x5 x6 : Int32} {r : Int32 × XO}, dl Ω x1 x2 x3 x4 x5 x6 = some r → XM G yX4_deliver cX4_deliver 10 ((some FieldType.boolean)) (RM 4 0) [.ref (ad G 4 0), .int x1, .int x2, .int x3, .int x4, .int x5, .int x6] Ω (.inl (some (.int r.1))) r.2) {r : Int32 × XO} (hf : fX4_deliver_s Ω b sg dl x1 x2 x3 x4 x5 x6 = some r) : XM G yX4_deliver cX4_deliver 10 ((some FieldType.boolean)) (RM 7 0) [.ref (ad G 4 0), .int x1, .int x2, .int x3, .int x4, .int x5, .int x6] Ω (.inl (some (.int (r.1)))) r.2 := by
  refine x_start (lv := [(0, .ref (ad G 4 0)), (1, .int x1), (2, .int x2), (3, .int x3), (4, .int x4), (5, .int x5), (6, .int x6)]) (own := RX4) hok (by decide +kernel) rfl (Nat.le_of_ble_eq_true rfl) rfl (fun B C => ?_)
  refine x_iload_n (pc2 := 1) C dX4_deliver_0 1 rfl rfl rfl ?_
  refine x_iconst (pc2 := 2) (v := 1) C dX4_deliver_1 rfl rfl ?_
  refine x_icmp_lt (tgt := 10) (pc2 := 5) C dX4_deliver_2 (by decide) rfl (fun qc_1 => ?_) (fun qc_1 => ?_)
  · refine x_iconst (pc2 := 11) (v := 0) C dX4_deliver_10 rfl rfl ?_
    rw [fX4_deliver_s, if_pos qc_1] at hf
    cases hf
    exact x_zreturn C dX4_deliver_11 rfl (by first | exact Or.inl rfl | exact Or.inr rfl) (Nat.le_of_ble_eq_true rfl) (Nat.le_of_ble_eq_true rfl) rfl rfl
  · refine x_iload_n (pc2 := 6) C dX4_deliver_5 1 rfl rfl rfl ?_
    refine x_iconst (pc2 := 7) (v := 4) C dX4_deliver_6 rfl rfl ?_
    refine x_icmp_le (tgt := 12) (pc2 := 10) C dX4_deliver_7 (by decide) rfl (fun qc_2 => ?_) (fun qc_2 => ?_)
    · refine x_aload_n (pc2 := 13) C dX4_deliver_12 0 rfl rfl rfl ?_
      refine x_getR (f := 401) (k2 := 2007) (pc2 := 16) C (by assumption) kf_4_11 dX4_deliver_13 rfl rfl rfl (rti_i rfl) rfl (fun qd_3 => ?_)
      refine x_iload_n (pc2 := 17) C dX4_deliver_16 1 rfl rfl rfl ?_
      refine x_iconst (pc2 := 18) (v := 1) C dX4_deliver_17 rfl rfl ?_
      refine x_isub (pc2 := 19) C dX4_deliver_18 rfl ?_
      rcases (Decidable.em (inB (x1 - (1 : Int32)) 4)).symm with qg_4 | qg_4
      · exact absurd hf (by rw [fX4_deliver_s, if_neg qc_1, if_pos qc_2, if_neg qg_4]; exact nofun)
      refine x_aald (k2 := 3) (pc2 := 20) C (by assumption) dX4_deliver_19 rfl rfl (inB_in qg_4) rfl (eli_2007 _ _) rfl (fun qd_5 => ?_)
      refine x_astore (pc2 := 22) (lv2 := [(7, _), (0, _), (1, _), (2, _), (3, _), (4, _), (5, _), (6, _)]) C dX4_deliver_20 (by decide) rfl rfl ?_
      refine x_aload (pc2 := 24) C dX4_deliver_22 0 rfl rfl ?_
      refine x_iload (pc2 := 26) C dX4_deliver_24 7 rfl rfl ?_
      refine x_putI (pc2 := 29) (f := 310) C (by assumption) kf_4_70 dX4_deliver_26 rfl rfl rfl rfl rfl ?_
      obtain ⟨Ω_6, hw_6⟩ : ∃ z, z = uI Ω 310 ((x1 - (1 : Int32)).toNatClampNeg) 0 x6 := ⟨_, rfl⟩
      refine x_om hw_6 ?_
      refine x_aload_n (pc2 := 30) C dX4_deliver_29 1 rfl rfl rfl ?_
      rcases (Decidable.em (xR Ω_6 404 0 = sg)).symm with qg_7 | qg_7
      · exact absurd hf (by rw [fX4_deliver_s, if_neg qc_1, if_pos qc_2, if_pos qg_4, wl_eq hw_6, if_neg qg_7]; exact nofun)
      refine x_getM (pc2 := 33) (f := 404) (k2 := 6) (v9 := sg) C (by assumption) kf_4_33 dX4_deliver_30 rfl rfl rfl qg_7 rfl ?_
      refine x_getR (f := 602) (k2 := 2013) (pc2 := 36) C (by assumption) kf_4_147 dX4_deliver_33 rfl rfl rfl (rti_i rfl) rfl (fun qd_8 => ?_)
      refine x_iload_n (pc2 := 37) C dX4_deliver_36 4 rfl rfl rfl ?_
      refine x_ret (rest := []) (st2 := [_]) (pc2 := 40) (cu2 := 0) (su2 := 0) (x_cSN C kmX10_at ke_4_129 (tX10_at hok (by assumption) rfl (by decide)) rfl rfl (Nat.le_of_ble_eq_true rfl) ⟨Nat.le_of_ble_eq_true rfl, Nat.le_of_ble_eq_true rfl⟩ ⟨Nat.le_of_ble_eq_true rfl, Nat.le_of_ble_eq_true rfl⟩ dX4_deliver_37) rfl rfl rfl rfl ?_
      refine x_istore (pc2 := 42) (lv2 := [(8, _), (7, _), (0, _), (1, _), (2, _), (3, _), (4, _), (5, _), (6, _)]) C dX4_deliver_40 (by decide) rfl rfl ?_
      refine x_iload (pc2 := 44) C dX4_deliver_42 0 rfl rfl ?_
      refine x_if_ne (tgt := 60) (pc2 := 47) C dX4_deliver_44 (by decide) rfl (fun qc_9 => ?_) (fun qc_9 => ?_)
      · refine x_aload (pc2 := 62) C dX4_deliver_60 1 rfl rfl ?_
        refine x_iload (pc2 := 64) C dX4_deliver_62 0 rfl rfl ?_
        refine x_iconst (pc2 := 65) (v := 1) C dX4_deliver_64 rfl rfl ?_
        refine x_isub (pc2 := 66) C dX4_deliver_65 rfl ?_
        refine x_iload_n (pc2 := 67) C dX4_deliver_66 4 rfl rfl rfl ?_
        refine x_iload_n (pc2 := 68) C dX4_deliver_67 5 rfl rfl rfl ?_
        refine x_iload (pc2 := 70) C dX4_deliver_68 6 rfl rfl ?_
        refine x_iload (pc2 := 72) C dX4_deliver_70 7 rfl rfl ?_
        refine x_ret (rest := []) (st2 := []) (pc2 := 75) (cu2 := 0) (su2 := 0) (x_cV C (by assumption) (Nat.le_of_ble_eq_true rfl) kmX3_open rfl kk_4_157 (tX3_open hok (by assumption)) rfl rfl (Nat.le_of_ble_eq_true rfl) ⟨Nat.le_of_ble_eq_true rfl, Nat.le_of_ble_eq_true rfl⟩ ⟨Nat.le_of_ble_eq_true rfl, Nat.le_of_ble_eq_true rfl⟩ dX4_deliver_72) rfl rfl rfl rfl ?_
        obtain ⟨Ω_10, hw_10⟩ : ∃ z, z = fX3_open Ω_6 ((x1 - (1 : Int32)).toNatClampNeg) ((sAt Ω_6 2013 sg x3) - (1 : Int32)) x2 x3 x4 x5 := ⟨_, rfl⟩
        refine x_om hw_10 ?_
        refine x_aload (pc2 := 77) C dX4_deliver_75 1 rfl rfl ?_
        refine x_aload_n (pc2 := 78) C dX4_deliver_77 2 rfl rfl rfl ?_
        rcases (Decidable.em (xR Ω_10 404 0 = sg)).symm with qg_11 | qg_11
        · exact absurd hf (by rw [fX4_deliver_s, if_neg qc_1, if_pos qc_2, if_pos qg_4, wl_eq hw_6, if_pos qg_7, if_neg qc_9, wl_eq hw_10, if_neg qg_11]; exact nofun)
        refine x_getM (pc2 := 81) (f := 404) (k2 := 6) (v9 := sg) C (by assumption) kf_4_33 dX4_deliver_78 rfl rfl rfl qg_11 rfl ?_
        refine x_aload_n (pc2 := 82) C dX4_deliver_81 2 rfl rfl rfl ?_
        rcases (Decidable.em (xR Ω_10 403 0 = b)).symm with qg_12 | qg_12
        · exact absurd hf (by rw [fX4_deliver_s, if_neg qc_1, if_pos qc_2, if_pos qg_4, wl_eq hw_6, if_pos qg_7, if_neg qc_9, wl_eq hw_10, if_pos qg_11, if_neg qg_12]; exact nofun)
        refine x_getM (pc2 := 85) (f := 403) (k2 := 0) (v9 := b) C (by assumption) kf_4_26 dX4_deliver_82 rfl rfl rfl qg_12 rfl ?_
        refine x_getI (pc2 := 88) (f := 10) C (by assumption) kf_4_161 dX4_deliver_85 rfl rfl rfl ?_
        refine x_aload_n (pc2 := 89) C dX4_deliver_88 2 rfl rfl rfl ?_
        refine x_getI (pc2 := 92) (f := 406) C (by assumption) kf_4_67 dX4_deliver_89 rfl rfl rfl ?_
        refine x_ret (rest := []) (st2 := []) (pc2 := 95) (cu2 := 0) (su2 := 0) (x_cV C (by assumption) (Nat.le_of_ble_eq_true rfl) kmX3_save rfl kk_4_164 (tX3_save hok (by assumption) (by assumption)) rfl rfl (Nat.le_of_ble_eq_true rfl) ⟨Nat.le_of_ble_eq_true rfl, Nat.le_of_ble_eq_true rfl⟩ ⟨Nat.le_of_ble_eq_true rfl, Nat.le_of_ble_eq_true rfl⟩ dX4_deliver_92) rfl rfl rfl rfl ?_
        obtain ⟨Ω_13, hw_13⟩ : ∃ z, z = fX3_save Ω_10 ((x1 - (1 : Int32)).toNatClampNeg) sg (xI Ω_10 10 b 0) (xI Ω_10 406 0 0) := ⟨_, rfl⟩
        refine x_om hw_13 ?_
        refine x_aload_n (pc2 := 96) C dX4_deliver_95 2 rfl rfl rfl ?_
        rcases (Decidable.em (xR Ω_13 404 0 = sg)).symm with qg_14 | qg_14
        · exact absurd hf (by rw [fX4_deliver_s, if_neg qc_1, if_pos qc_2, if_pos qg_4, wl_eq hw_6, if_pos qg_7, if_neg qc_9, wl_eq hw_10, if_pos qg_11, if_pos qg_12, wl_eq hw_13, if_neg qg_14]; exact nofun)
        refine x_getM (pc2 := 99) (f := 404) (k2 := 6) (v9 := sg) C (by assumption) kf_4_33 dX4_deliver_96 rfl rfl rfl qg_14 rfl ?_
        refine x_iload_n (pc2 := 100) C dX4_deliver_99 4 rfl rfl rfl ?_
        refine x_iload_n (pc2 := 101) C dX4_deliver_100 5 rfl rfl rfl ?_
        refine x_iload (pc2 := 103) C dX4_deliver_101 6 rfl rfl ?_
        refine x_ret (rest := []) (st2 := []) (pc2 := 106) (cu2 := 0) (su2 := 0) (x_cV C (by assumption) (Nat.le_of_ble_eq_true rfl) kmX6_move rfl kk_4_139 (tX6_move hok (by assumption)) rfl rfl (Nat.le_of_ble_eq_true rfl) ⟨Nat.le_of_ble_eq_true rfl, Nat.le_of_ble_eq_true rfl⟩ ⟨Nat.le_of_ble_eq_true rfl, Nat.le_of_ble_eq_true rfl⟩ dX4_deliver_103) rfl rfl rfl rfl ?_
        obtain ⟨Ω_15, hw_15⟩ : ∃ z, z = fX6_move Ω_13 sg x2 x3 x4 := ⟨_, rfl⟩
        refine x_om hw_15 ?_
        refine x_aload_n (pc2 := 107) C dX4_deliver_106 2 rfl rfl rfl ?_
        refine x_iload_n (pc2 := 108) C dX4_deliver_107 3 rfl rfl rfl ?_
        refine x_aload (pc2 := 110) C dX4_deliver_108 1 rfl rfl ?_
        rcases hq_16 : fX4_runProgram Ω_15 b sg dl x1 ((x1 - (1 : Int32)).toNatClampNeg) with _ | r_16
        · exact absurd hf (by rw [fX4_deliver_s, if_neg qc_1, if_pos qc_2, if_pos qg_4, wl_eq hw_6, if_pos qg_7, if_neg qc_9, wl_eq hw_10, if_pos qg_11, if_pos qg_12, wl_eq hw_13, if_pos qg_14, wl_eq hw_15, hq_16, Option.bind_none]; exact nofun)
        refine x_ret (rest := []) (st2 := [_]) (pc2 := 113) (cu2 := 0) (su2 := 0) (x_cV C (by assumption) (Nat.le_of_ble_eq_true rfl) kmX4_runProgram rfl kk_4_168 (tX4_runProgram_1 hok (by assumption) (by assumption) (by assumption) (by assumption)  hdl hq_16) rfl rfl (Nat.le_of_ble_eq_true rfl) ⟨Nat.le_of_ble_eq_true rfl, Nat.le_of_ble_eq_true rfl⟩ ⟨Nat.le_of_ble_eq_true rfl, Nat.le_of_ble_eq_true rfl⟩ dX4_deliver_110) rfl rfl rfl rfl ?_
        refine x_istore (pc2 := 115) (lv2 := [(9, _), (8, _), (7, _), (0, _), (1, _), (2, _), (3, _), (4, _), (5, _), (6, _)]) C dX4_deliver_113 (by decide) rfl rfl ?_
        refine x_iload (pc2 := 117) C dX4_deliver_115 0 rfl rfl ?_
        refine x_if_ne (tgt := 126) (pc2 := 120) C dX4_deliver_117 (by decide) rfl (fun qc_17 => ?_) (fun qc_17 => ?_)
        · refine x_iload (pc2 := 128) C dX4_deliver_126 0 rfl rfl ?_
          rcases (Decidable.em (r_16.1 = 0 ∨ r_16.1 = 1)).symm with qg_18 | qg_18
          · exact absurd hf (by rw [fX4_deliver_s, if_neg qc_1, if_pos qc_2, if_pos qg_4, wl_eq hw_6, if_pos qg_7, if_neg qc_9, wl_eq hw_10, if_pos qg_11, if_pos qg_12, wl_eq hw_13, if_pos qg_14, wl_eq hw_15, hq_16, Option.bind_some, if_neg qc_17, if_neg qg_18]; exact nofun)
          rw [fX4_deliver_s, if_neg qc_1, if_pos qc_2, if_pos qg_4, wl_eq hw_6, if_pos qg_7, if_neg qc_9, wl_eq hw_10, if_pos qg_11, if_pos qg_12, wl_eq hw_13, if_pos qg_14, wl_eq hw_15, hq_16, Option.bind_some, if_neg qc_17, if_pos qg_18] at hf
          cases hf
          exact x_zreturn C dX4_deliver_128 rfl qg_18 (Nat.le_of_ble_eq_true rfl) (Nat.le_of_ble_eq_true rfl) rfl rfl
        · refine x_aload_n (pc2 := 121) C dX4_deliver_120 3 rfl rfl rfl ?_
          refine x_aload (pc2 := 123) C dX4_deliver_121 2 rfl rfl ?_
          rcases hq_19 : fX4_undo r_16.2 b sg ((x1 - (1 : Int32)).toNatClampNeg) with _ | r_19
          · exact absurd hf (by rw [fX4_deliver_s, if_neg qc_1, if_pos qc_2, if_pos qg_4, wl_eq hw_6, if_pos qg_7, if_neg qc_9, wl_eq hw_10, if_pos qg_11, if_pos qg_12, wl_eq hw_13, if_pos qg_14, wl_eq hw_15, hq_16, Option.bind_some, if_pos qc_17, hq_19, Option.bind_none]; exact nofun)
          refine x_ret (rest := []) (st2 := []) (pc2 := 126) (cu2 := 0) (su2 := 0) (x_cV C (by assumption) (Nat.le_of_ble_eq_true rfl) kmX4_undo rfl kk_4_172 (tX4_undo hok (by assumption) (by assumption) (by assumption) (by assumption)  hq_19) rfl rfl (Nat.le_of_ble_eq_true rfl) ⟨Nat.le_of_ble_eq_true rfl, Nat.le_of_ble_eq_true rfl⟩ ⟨Nat.le_of_ble_eq_true rfl, Nat.le_of_ble_eq_true rfl⟩ dX4_deliver_123) rfl rfl rfl rfl ?_
          refine x_iload (pc2 := 128) C dX4_deliver_126 0 rfl rfl ?_
          rcases (Decidable.em (r_16.1 = 0 ∨ r_16.1 = 1)).symm with qg_20 | qg_20
          · exact absurd hf (by rw [fX4_deliver_s, if_neg qc_1, if_pos qc_2, if_pos qg_4, wl_eq hw_6, if_pos qg_7, if_neg qc_9, wl_eq hw_10, if_pos qg_11, if_pos qg_12, wl_eq hw_13, if_pos qg_14, wl_eq hw_15, hq_16, Option.bind_some, if_pos qc_17, hq_19, Option.bind_some, if_neg qg_20]; exact nofun)
          rw [fX4_deliver_s, if_neg qc_1, if_pos qc_2, if_pos qg_4, wl_eq hw_6, if_pos qg_7, if_neg qc_9, wl_eq hw_10, if_pos qg_11, if_pos qg_12, wl_eq hw_13, if_pos qg_14, wl_eq hw_15, hq_16, Option.bind_some, if_pos qc_17, hq_19, Option.bind_some, if_pos qg_20] at hf
          cases hf
          exact x_zreturn C dX4_deliver_128 rfl qg_20 (Nat.le_of_ble_eq_true rfl) (Nat.le_of_ble_eq_true rfl) rfl rfl
      · refine x_aload_n (pc2 := 48) C dX4_deliver_47 2 rfl rfl rfl ?_
        rcases (Decidable.em (xR Ω_6 404 0 = sg)).symm with qg_21 | qg_21
        · exact absurd hf (by rw [fX4_deliver_s, if_neg qc_1, if_pos qc_2, if_pos qg_4, wl_eq hw_6, if_pos qg_7, if_pos qc_9, if_neg qg_21]; exact nofun)
        refine x_getM (pc2 := 51) (f := 404) (k2 := 6) (v9 := sg) C (by assumption) kf_4_33 dX4_deliver_48 rfl rfl rfl qg_21 rfl ?_
        refine x_iload_n (pc2 := 52) C dX4_deliver_51 4 rfl rfl rfl ?_
        refine x_iload_n (pc2 := 53) C dX4_deliver_52 5 rfl rfl rfl ?_
        refine x_iload (pc2 := 55) C dX4_deliver_53 6 rfl rfl ?_
        refine x_ret (rest := []) (st2 := []) (pc2 := 58) (cu2 := 0) (su2 := 0) (x_cV C (by assumption) (Nat.le_of_ble_eq_true rfl) kmX6_move rfl kk_4_139 (tX6_move hok (by assumption)) rfl rfl (Nat.le_of_ble_eq_true rfl) ⟨Nat.le_of_ble_eq_true rfl, Nat.le_of_ble_eq_true rfl⟩ ⟨Nat.le_of_ble_eq_true rfl, Nat.le_of_ble_eq_true rfl⟩ dX4_deliver_55) rfl rfl rfl rfl ?_
        obtain ⟨Ω_22, hw_22⟩ : ∃ z, z = fX6_move Ω_6 sg x2 x3 x4 := ⟨_, rfl⟩
        refine x_om hw_22 ?_
        refine x_iconst (pc2 := 59) (v := 1) C dX4_deliver_58 rfl rfl ?_
        rw [fX4_deliver_s, if_neg qc_1, if_pos qc_2, if_pos qg_4, wl_eq hw_6, if_pos qg_7, if_pos qc_9, if_pos qg_21, wl_eq hw_22] at hf
        cases hf
        exact x_zreturn C dX4_deliver_59 rfl (by first | exact Or.inl rfl | exact Or.inr rfl) (Nat.le_of_ble_eq_true rfl) (Nat.le_of_ble_eq_true rfl) rfl rfl
    · refine x_iconst (pc2 := 11) (v := 0) C dX4_deliver_10 rfl rfl ?_
      rw [fX4_deliver_s, if_neg qc_1, if_neg qc_2] at hf
      cases hf
      exact x_zreturn C dX4_deliver_11 rfl (by first | exact Or.inl rfl | exact Or.inr rfl) (Nat.le_of_ble_eq_true rfl) (Nat.le_of_ble_eq_true rfl) rfl rfl
theorem tX4_dl_2 {G : XG} (hok : XK G) (hd0 : dm G 4 0) {b sg : Nat} (db : dm G 0 b) (ds : dm G 6 sg) {Ω : XO} {x1 x2 x3 x4 x5 x6 : Int32} {r : Int32 × XO} (hf : fX4_deliver b sg 2 Ω x1 x2 x3 x4 x5 x6 = some r) : XM G yX4_deliver cX4_deliver 10 ((some FieldType.boolean)) (RM 7 0) [.ref (ad G 4 0), .int x1, .int x2, .int x3, .int x4, .int x5, .int x6] Ω (.inl (some (.int r.1))) r.2 :=
  tX4_deliver_s_1 hok hd0 db ds (fun h9 => tX4_dl_1 hok hd0 db ds h9) hf
set_option maxRecDepth 20000 in
theorem tX4_callFrom_2 {G : XG} (hok : XK G) {b : Nat} {sg : Nat} {dl : XO → Int32 → Int32 → Int32 → Int32 → Int32 → Int32 → Option (Int32 × XO)} {x1 : Int32} {i2 : Nat} {Ω : XO} (hd0 : dm G 4 0) (hd2 : dm G 3 i2) (db : dm G 0 b) (ds : dm G 6 sg) (hdl : ∀ {Ω : XO} {x1 x2 x3 x4 x5 x6 : Int32} {r : Int32 × XO}, dl Ω x1 x2 x3 x4 x5 x6 = some r → XM G yX4_deliver cX4_deliver 10 ((some FieldType.boolean)) (RM 7 0) [.ref (ad G 4 0), .int x1, .int x2, .int x3, .int x4, .int x5, .int x6] Ω (.inl (some (.int r.1))) r.2) {r : XO} (hf : fX4_callFrom Ω b sg dl x1 i2 = some r) : XM G yX4_callFrom cX4_callFrom 8 none (RM 8 0) [.ref (ad G 4 0), .int x1, .ref (ad G 3 i2)] Ω (.inl none) (r) := by
  refine x_start (lv := [(0, .ref (ad G 4 0)), (1, .int x1), (2, .ref (ad G 3 i2))]) (own := RX4) hok (by decide +kernel) rfl (Nat.le_of_ble_eq_true rfl) rfl (fun B C => ?_)
  refine x_aload_n (pc2 := 1) C dX4_callFrom_0 2 rfl rfl rfl ?_
  refine x_ret (rest := []) (st2 := [_]) (pc2 := 4) (cu2 := 0) (su2 := 0) (x_cV C (by assumption) (Nat.le_of_ble_eq_true rfl) kmX3_take rfl kk_4_249 (tX3_take hok (by assumption)) rfl rfl (Nat.le_of_ble_eq_true rfl) ⟨Nat.le_of_ble_eq_true rfl, Nat.le_of_ble_eq_true rfl⟩ ⟨Nat.le_of_ble_eq_true rfl, Nat.le_of_ble_eq_true rfl⟩ dX4_callFrom_1) rfl rfl rfl rfl ?_
  obtain ⟨Ω_1, hw_1⟩ : ∃ z, z = (fX3_take Ω i2).2 := ⟨_, rfl⟩
  refine x_om hw_1 ?_
  refine x_istore_n (pc2 := 5) (lv2 := [(3, _), (0, _), (1, _), (2, _)]) C dX4_callFrom_4 rfl (by decide) rfl rfl ?_
  refine x_aload_n (pc2 := 6) C dX4_callFrom_5 3 rfl rfl rfl ?_
  refine x_ret (rest := []) (st2 := [_]) (pc2 := 9) (cu2 := 0) (su2 := 0) (x_cV C (by assumption) (Nat.le_of_ble_eq_true rfl) kmX3_take rfl kk_4_249 (tX3_take hok (by assumption)) rfl rfl (Nat.le_of_ble_eq_true rfl) ⟨Nat.le_of_ble_eq_true rfl, Nat.le_of_ble_eq_true rfl⟩ ⟨Nat.le_of_ble_eq_true rfl, Nat.le_of_ble_eq_true rfl⟩ dX4_callFrom_6) rfl rfl rfl rfl ?_
  obtain ⟨Ω_2, hw_2⟩ : ∃ z, z = (fX3_take Ω_1 i2).2 := ⟨_, rfl⟩
  refine x_om hw_2 ?_
  refine x_istore (pc2 := 11) (lv2 := [(4, _), (3, _), (0, _), (1, _), (2, _)]) C dX4_callFrom_9 (by decide) rfl rfl ?_
  refine x_aload_n (pc2 := 12) C dX4_callFrom_11 4 rfl rfl rfl ?_
  refine x_ret (rest := []) (st2 := [_]) (pc2 := 15) (cu2 := 0) (su2 := 0) (x_cV C (by assumption) (Nat.le_of_ble_eq_true rfl) kmX3_take rfl kk_4_249 (tX3_take hok (by assumption)) rfl rfl (Nat.le_of_ble_eq_true rfl) ⟨Nat.le_of_ble_eq_true rfl, Nat.le_of_ble_eq_true rfl⟩ ⟨Nat.le_of_ble_eq_true rfl, Nat.le_of_ble_eq_true rfl⟩ dX4_callFrom_12) rfl rfl rfl rfl ?_
  obtain ⟨Ω_3, hw_3⟩ : ∃ z, z = (fX3_take Ω_2 i2).2 := ⟨_, rfl⟩
  refine x_om hw_3 ?_
  refine x_bipush (pc2 := 17) (v := 16) C dX4_callFrom_15 rfl rfl ?_
  refine x_irem (pc2 := 18) C dX4_callFrom_17 (by decide +kernel) rfl ?_
  refine x_istore (pc2 := 20) (lv2 := [(5, _), (4, _), (3, _), (0, _), (1, _), (2, _)]) C dX4_callFrom_18 (by decide) rfl rfl ?_
  refine x_iload_n (pc2 := 21) C dX4_callFrom_20 4 rfl rfl rfl ?_
  refine x_iconst (pc2 := 22) (v := 1) C dX4_callFrom_21 rfl rfl ?_
  refine x_icmp_lt (tgt := 49) (pc2 := 25) C dX4_callFrom_22 (by decide) rfl (fun qc_4 => ?_) (fun qc_4 => ?_)
  · refine x_aload_n (pc2 := 50) C dX4_callFrom_49 5 rfl rfl rfl ?_
    refine x_iconst (pc2 := 51) (v := 0) C dX4_callFrom_50 rfl rfl ?_
    refine x_ret (rest := []) (st2 := []) (pc2 := 54) (cu2 := 0) (su2 := 0) (x_cV C (by assumption) (Nat.le_of_ble_eq_true rfl) kmX3_push rfl kk_4_255 (tX3_push hok (by assumption)) rfl rfl (Nat.le_of_ble_eq_true rfl) ⟨Nat.le_of_ble_eq_true rfl, Nat.le_of_ble_eq_true rfl⟩ ⟨Nat.le_of_ble_eq_true rfl, Nat.le_of_ble_eq_true rfl⟩ dX4_callFrom_51) rfl rfl rfl rfl ?_
    obtain ⟨Ω_5, hw_5⟩ : ∃ z, z = fX3_push Ω_3 i2 (0 : Int32) := ⟨_, rfl⟩
    refine x_om hw_5 ?_
    rw [fX4_callFrom, wl_eq hw_1, wl_eq hw_2, wl_eq hw_3, if_pos qc_4, wl_eq hw_5] at hf
    cases hf
    exact x_vreturn C dX4_callFrom_54 rfl (Nat.le_of_ble_eq_true rfl) (Nat.le_of_ble_eq_true rfl) rfl rfl
  · refine x_iload_n (pc2 := 26) C dX4_callFrom_25 4 rfl rfl rfl ?_
    refine x_iconst (pc2 := 27) (v := 4) C dX4_callFrom_26 rfl rfl ?_
    refine x_icmp_ge (tgt := 49) (pc2 := 30) C dX4_callFrom_27 (by decide) rfl (fun qc_6 => ?_) (fun qc_6 => ?_)
    · refine x_aload_n (pc2 := 50) C dX4_callFrom_49 5 rfl rfl rfl ?_
      refine x_iconst (pc2 := 51) (v := 0) C dX4_callFrom_50 rfl rfl ?_
      refine x_ret (rest := []) (st2 := []) (pc2 := 54) (cu2 := 0) (su2 := 0) (x_cV C (by assumption) (Nat.le_of_ble_eq_true rfl) kmX3_push rfl kk_4_255 (tX3_push hok (by assumption)) rfl rfl (Nat.le_of_ble_eq_true rfl) ⟨Nat.le_of_ble_eq_true rfl, Nat.le_of_ble_eq_true rfl⟩ ⟨Nat.le_of_ble_eq_true rfl, Nat.le_of_ble_eq_true rfl⟩ dX4_callFrom_51) rfl rfl rfl rfl ?_
      obtain ⟨Ω_7, hw_7⟩ : ∃ z, z = fX3_push Ω_3 i2 (0 : Int32) := ⟨_, rfl⟩
      refine x_om hw_7 ?_
      rw [fX4_callFrom, wl_eq hw_1, wl_eq hw_2, wl_eq hw_3, if_neg qc_4, if_pos qc_6, wl_eq hw_7] at hf
      cases hf
      exact x_vreturn C dX4_callFrom_54 rfl (Nat.le_of_ble_eq_true rfl) (Nat.le_of_ble_eq_true rfl) rfl rfl
    · refine x_aload_n (pc2 := 31) C dX4_callFrom_30 3 rfl rfl rfl ?_
      rcases (Decidable.em (xR Ω_3 404 0 = sg)).symm with qg_8 | qg_8
      · exact absurd hf (by rw [fX4_callFrom, wl_eq hw_1, wl_eq hw_2, wl_eq hw_3, if_neg qc_4, if_neg qc_6, if_neg qg_8]; exact nofun)
      refine x_getM (pc2 := 34) (f := 404) (k2 := 6) (v9 := sg) C (by assumption) kf_4_33 dX4_callFrom_31 rfl rfl rfl qg_8 rfl ?_
      refine x_getR (f := 600) (k2 := 2011) (pc2 := 37) C (by assumption) kf_4_125 dX4_callFrom_34 rfl rfl rfl (rti_i rfl) rfl (fun qd_9 => ?_)
      refine x_aload_n (pc2 := 38) C dX4_callFrom_37 5 rfl rfl rfl ?_
      refine x_getI (pc2 := 41) (f := 304) C (by assumption) kf_4_242 dX4_callFrom_38 rfl rfl rfl ?_
      refine x_ret (rest := []) (st2 := [_]) (pc2 := 44) (cu2 := 0) (su2 := 0) (x_cSN C kmX10_at ke_4_129 (tX10_at hok (by assumption) rfl (by decide)) rfl rfl (Nat.le_of_ble_eq_true rfl) ⟨Nat.le_of_ble_eq_true rfl, Nat.le_of_ble_eq_true rfl⟩ ⟨Nat.le_of_ble_eq_true rfl, Nat.le_of_ble_eq_true rfl⟩ dX4_callFrom_41) rfl rfl rfl rfl ?_
      refine x_iload (pc2 := 46) C dX4_callFrom_44 1 rfl rfl ?_
      refine x_icmp_ge (tgt := 55) (pc2 := 49) C dX4_callFrom_46 (by decide) rfl (fun qc_10 => ?_) (fun qc_10 => ?_)
      · refine x_aload_n (pc2 := 56) C dX4_callFrom_55 5 rfl rfl rfl ?_
        refine x_getI (pc2 := 59) (f := 310) C (by assumption) kf_4_70 dX4_callFrom_56 rfl rfl rfl ?_
        refine x_aload_n (pc2 := 60) C dX4_callFrom_59 5 rfl rfl rfl ?_
        refine x_getI (pc2 := 63) (f := 310) C (by assumption) kf_4_70 dX4_callFrom_60 rfl rfl rfl ?_
        refine x_iconst (pc2 := 64) (v := 4) C dX4_callFrom_63 rfl rfl ?_
        refine x_idiv (pc2 := 65) C dX4_callFrom_64 (by decide +kernel) rfl ?_
        refine x_isub (pc2 := 66) C dX4_callFrom_65 rfl ?_
        refine x_istore (pc2 := 68) (lv2 := [(6, _), (5, _), (4, _), (3, _), (0, _), (1, _), (2, _)]) C dX4_callFrom_66 (by decide) rfl rfl ?_
        refine x_aload_n (pc2 := 69) C dX4_callFrom_68 4 rfl rfl rfl ?_
        refine x_iload_n (pc2 := 70) C dX4_callFrom_69 5 rfl rfl rfl ?_
        refine x_iconst (pc2 := 71) (v := 1) C dX4_callFrom_70 rfl rfl ?_
        refine x_iadd (pc2 := 72) C dX4_callFrom_71 rfl ?_
        refine x_aload_n (pc2 := 73) C dX4_callFrom_72 6 rfl rfl rfl ?_
        refine x_getI (pc2 := 76) (f := 304) C (by assumption) kf_4_242 dX4_callFrom_73 rfl rfl rfl ?_
        refine x_iload (pc2 := 78) C dX4_callFrom_76 1 rfl rfl ?_
        refine x_iload (pc2 := 80) C dX4_callFrom_78 2 rfl rfl ?_
        refine x_iload_n (pc2 := 81) C dX4_callFrom_80 3 rfl rfl rfl ?_
        refine x_iload (pc2 := 83) C dX4_callFrom_81 0 rfl rfl ?_
        rcases hq_11 : dl Ω_3 (x1 + (1 : Int32)) (xI Ω_3 304 i2 0) (((fX3_take Ω_2 i2).1) - ((fX3_take Ω_2 i2).1) / (16 : Int32) * (16 : Int32)) ((fX3_take Ω_1 i2).1) ((fX3_take Ω i2).1) ((xI Ω_3 310 i2 0) - ((xI Ω_3 310 i2 0) / (4 : Int32))) with _ | r_11
        · exact absurd hf (by rw [fX4_callFrom, wl_eq hw_1, wl_eq hw_2, wl_eq hw_3, if_neg qc_4, if_neg qc_6, if_pos qg_8, if_pos qc_10, hq_11, Option.bind_none]; exact nofun)
        refine x_ret (rest := []) (st2 := [_]) (pc2 := 86) (cu2 := 0) (su2 := 0) (x_cV C (by assumption) (Nat.le_of_ble_eq_true rfl) kmX4_deliver rfl kk_4_98 (hdl hq_11) rfl rfl (Nat.le_of_ble_eq_true rfl) ⟨Nat.le_of_ble_eq_true rfl, Nat.le_of_ble_eq_true rfl⟩ ⟨Nat.le_of_ble_eq_true rfl, Nat.le_of_ble_eq_true rfl⟩ dX4_callFrom_83) rfl rfl rfl rfl ?_
        refine x_istore (pc2 := 88) (lv2 := [(7, _), (6, _), (5, _), (4, _), (3, _), (0, _), (1, _), (2, _)]) C dX4_callFrom_86 (by decide) rfl rfl ?_
        refine x_aload_n (pc2 := 89) C dX4_callFrom_88 7 rfl rfl rfl ?_
        refine x_dup (pc2 := 90) C dX4_callFrom_89 rfl rfl ?_
        refine x_getI (pc2 := 93) (f := 310) C (by assumption) kf_4_70 dX4_callFrom_90 rfl rfl rfl ?_
        refine x_aload_n (pc2 := 94) C dX4_callFrom_93 5 rfl rfl rfl ?_
        refine x_getR (f := 401) (k2 := 2007) (pc2 := 97) C (by assumption) kf_4_11 dX4_callFrom_94 rfl rfl rfl (rti_i rfl) rfl (fun qd_12 => ?_)
        refine x_iload_n (pc2 := 98) C dX4_callFrom_97 6 rfl rfl rfl ?_
        rcases (Decidable.em (inB x1 4)).symm with qg_13 | qg_13
        · exact absurd hf (by rw [fX4_callFrom, wl_eq hw_1, wl_eq hw_2, wl_eq hw_3, if_neg qc_4, if_neg qc_6, if_pos qg_8, if_pos qc_10, hq_11, Option.bind_some, if_neg qg_13]; exact nofun)
        refine x_aald (k2 := 3) (pc2 := 99) C (by assumption) dX4_callFrom_98 rfl rfl (inB_in qg_13) rfl (eli_2007 _ _) rfl (fun qd_14 => ?_)
        refine x_getI (pc2 := 102) (f := 310) C (by assumption) kf_4_70 dX4_callFrom_99 rfl rfl rfl ?_
        refine x_iload (pc2 := 104) C dX4_callFrom_102 1 rfl rfl ?_
        refine x_isub (pc2 := 105) C dX4_callFrom_104 rfl ?_
        refine x_iadd (pc2 := 106) C dX4_callFrom_105 rfl ?_
        refine x_putI (pc2 := 109) (f := 310) C (by assumption) kf_4_70 dX4_callFrom_106 rfl rfl rfl rfl rfl ?_
        obtain ⟨Ω_15, hw_15⟩ : ∃ z, z = uI r_11.2 310 i2 0 ((xI r_11.2 310 i2 0) + ((xI r_11.2 310 x1.toNatClampNeg 0) - ((xI Ω_3 310 i2 0) - ((xI Ω_3 310 i2 0) / (4 : Int32))))) := ⟨_, rfl⟩
        refine x_om hw_15 ?_
        refine x_aload_n (pc2 := 110) C dX4_callFrom_109 7 rfl rfl rfl ?_
        refine x_iload (pc2 := 112) C dX4_callFrom_110 0 rfl rfl ?_
        refine x_if_eq (tgt := 119) (pc2 := 115) C dX4_callFrom_112 (by decide) rfl (fun qc_16 => ?_) (fun qc_16 => ?_)
        · refine x_iconst (pc2 := 120) (v := 0) C dX4_callFrom_119 rfl rfl ?_
          refine x_ret (rest := []) (st2 := []) (pc2 := 123) (cu2 := 0) (su2 := 0) (x_cV C (by assumption) (Nat.le_of_ble_eq_true rfl) kmX3_push rfl kk_4_255 (tX3_push hok (by assumption)) rfl rfl (Nat.le_of_ble_eq_true rfl) ⟨Nat.le_of_ble_eq_true rfl, Nat.le_of_ble_eq_true rfl⟩ ⟨Nat.le_of_ble_eq_true rfl, Nat.le_of_ble_eq_true rfl⟩ dX4_callFrom_120) rfl rfl rfl rfl ?_
          obtain ⟨Ω_17, hw_17⟩ : ∃ z, z = fX3_push Ω_15 i2 (0 : Int32) := ⟨_, rfl⟩
          refine x_om hw_17 ?_
          rw [fX4_callFrom, wl_eq hw_1, wl_eq hw_2, wl_eq hw_3, if_neg qc_4, if_neg qc_6, if_pos qg_8, if_pos qc_10, hq_11, Option.bind_some, if_pos qg_13, wl_eq hw_15, if_pos qc_16, wl_eq hw_17] at hf
          cases hf
          exact x_vreturn C dX4_callFrom_123 rfl (Nat.le_of_ble_eq_true rfl) (Nat.le_of_ble_eq_true rfl) rfl rfl
        · refine x_iconst (pc2 := 116) (v := 1) C dX4_callFrom_115 rfl rfl ?_
          refine x_goto (tgt := 120) C dX4_callFrom_116 (by decide) ?_
          refine x_ret (rest := []) (st2 := []) (pc2 := 123) (cu2 := 0) (su2 := 0) (x_cV C (by assumption) (Nat.le_of_ble_eq_true rfl) kmX3_push rfl kk_4_255 (tX3_push hok (by assumption)) rfl rfl (Nat.le_of_ble_eq_true rfl) ⟨Nat.le_of_ble_eq_true rfl, Nat.le_of_ble_eq_true rfl⟩ ⟨Nat.le_of_ble_eq_true rfl, Nat.le_of_ble_eq_true rfl⟩ dX4_callFrom_120) rfl rfl rfl rfl ?_
          obtain ⟨Ω_18, hw_18⟩ : ∃ z, z = fX3_push Ω_15 i2 (1 : Int32) := ⟨_, rfl⟩
          refine x_om hw_18 ?_
          rw [fX4_callFrom, wl_eq hw_1, wl_eq hw_2, wl_eq hw_3, if_neg qc_4, if_neg qc_6, if_pos qg_8, if_pos qc_10, hq_11, Option.bind_some, if_pos qg_13, wl_eq hw_15, if_neg qc_16, wl_eq hw_18] at hf
          cases hf
          exact x_vreturn C dX4_callFrom_123 rfl (Nat.le_of_ble_eq_true rfl) (Nat.le_of_ble_eq_true rfl) rfl rfl
      · refine x_aload_n (pc2 := 50) C dX4_callFrom_49 5 rfl rfl rfl ?_
        refine x_iconst (pc2 := 51) (v := 0) C dX4_callFrom_50 rfl rfl ?_
        refine x_ret (rest := []) (st2 := []) (pc2 := 54) (cu2 := 0) (su2 := 0) (x_cV C (by assumption) (Nat.le_of_ble_eq_true rfl) kmX3_push rfl kk_4_255 (tX3_push hok (by assumption)) rfl rfl (Nat.le_of_ble_eq_true rfl) ⟨Nat.le_of_ble_eq_true rfl, Nat.le_of_ble_eq_true rfl⟩ ⟨Nat.le_of_ble_eq_true rfl, Nat.le_of_ble_eq_true rfl⟩ dX4_callFrom_51) rfl rfl rfl rfl ?_
        obtain ⟨Ω_19, hw_19⟩ : ∃ z, z = fX3_push Ω_3 i2 (0 : Int32) := ⟨_, rfl⟩
        refine x_om hw_19 ?_
        rw [fX4_callFrom, wl_eq hw_1, wl_eq hw_2, wl_eq hw_3, if_neg qc_4, if_neg qc_6, if_pos qg_8, if_neg qc_10, wl_eq hw_19] at hf
        cases hf
        exact x_vreturn C dX4_callFrom_54 rfl (Nat.le_of_ble_eq_true rfl) (Nat.le_of_ble_eq_true rfl) rfl rfl
set_option maxRecDepth 20000 in
theorem lX4_runProgram_l2_2 {G : XG} (hok : XK G) {B : XB} {b : Nat} {sg : Nat} {dl : XO → Int32 → Int32 → Int32 → Int32 → Int32 → Int32 → Option (Int32 × XO)} {y1 : Int32} {y2 : Nat}  (hf0 : dm G 4 0) (hf2 : dm G 3 y2) (db : dm G 0 b) (ds : dm G 6 sg) (hdl : ∀ {Ω : XO} {x1 x2 x3 x4 x5 x6 : Int32} {r : Int32 × XO}, dl Ω x1 x2 x3 x4 x5 x6 = some r → XM G yX4_deliver cX4_deliver 10 ((some FieldType.boolean)) (RM 7 0) [.ref (ad G 4 0), .int x1, .int x2, .int x3, .int x4, .int x5, .int x6] Ω (.inl (some (.int r.1))) r.2) {T : Option Value ⊕ String} {Ω9 : XO} (C : XC G B cX4_runProgram RX4 (RM 9 0) 7 ((some FieldType.boolean)) T Ω9) : ∀ (n : Nat) (y3 : Int32) (Ω : XO) {r : ((Int32 × XO) ⊕ (Int32 × XO))}, fX4_runProgram_l2 b sg dl y1 y2 n y3 Ω = some r → (∀ v, r = .inl v → T = (.inl (some (.int (v.1)))) ∧ Ω9 = v.2) → (∀ q, r = .inr q → (XW G B 7 202 [] [] q.2 0 0)) → XW G B 7 2 [(3, .int (y3)), (0, .ref (ad G 4 (0))), (1, .int (y1)), (2, .ref (ad G 3 (y2)))] [] Ω 0 0 := by
  intro n
  induction n with
  | zero => intro y3 Ω r hf; exact absurd hf (by rw [fX4_runProgram_l2]; exact nofun)
  | succ n ih =>
    intro y3 Ω r hf hk hk2
    refine x_iload_n (pc2 := 3) C dX4_runProgram_2 0 rfl rfl rfl ?_
    refine x_ldc (pc2 := 5) C kc_4_189 dX4_runProgram_3 rfl ?_
    refine x_icmp_ge (tgt := 202) (pc2 := 8) C dX4_runProgram_5 (by decide) rfl (fun qc_1 => ?_) (fun qc_1 => ?_)
    · rw [fX4_runProgram_l2, if_pos qc_1] at hf
      exact x_sub (lv2 := []) C [] rfl (hk2 _ (Option.some.inj hf).symm)
    · refine x_aload_n (pc2 := 9) C dX4_runProgram_8 3 rfl rfl rfl ?_
      refine x_getI (pc2 := 12) (f := 309) C (by assumption) kf_4_190 dX4_runProgram_9 rfl rfl rfl ?_
      refine x_aload_n (pc2 := 13) C dX4_runProgram_12 1 rfl rfl rfl ?_
      refine x_getR (f := 400) (k2 := 5) (pc2 := 16) C (by assumption) kf_4_34 dX4_runProgram_13 rfl rfl rfl (rti_i rfl) rfl (fun qd_2 => ?_)
      refine x_aload_n (pc2 := 17) C dX4_runProgram_16 3 rfl rfl rfl ?_
      refine x_getI (pc2 := 20) (f := 308) C (by assumption) kf_4_193 dX4_runProgram_17 rfl rfl rfl ?_
      refine x_ret (rest := [_]) (st2 := [_, _]) (pc2 := 23) (cu2 := 0) (su2 := 0) (x_cV C (by assumption) (Nat.le_of_ble_eq_true rfl) kmX5_lengthOf rfl kk_4_196 (tX5_lengthOf hok (by assumption)) rfl rfl (Nat.le_of_ble_eq_true rfl) ⟨Nat.le_of_ble_eq_true rfl, Nat.le_of_ble_eq_true rfl⟩ ⟨Nat.le_of_ble_eq_true rfl, Nat.le_of_ble_eq_true rfl⟩ dX4_runProgram_20) rfl rfl rfl rfl ?_
      refine x_icmp_lt (tgt := 28) (pc2 := 26) C dX4_runProgram_23 (by decide) rfl (fun qc_3 => ?_) (fun qc_3 => ?_)
      · refine x_aload_n (pc2 := 29) C dX4_runProgram_28 1 rfl rfl rfl ?_
        refine x_getR (f := 400) (k2 := 5) (pc2 := 32) C (by assumption) kf_4_34 dX4_runProgram_29 rfl rfl rfl (rti_i rfl) rfl (fun qd_4 => ?_)
        refine x_aload_n (pc2 := 33) C dX4_runProgram_32 3 rfl rfl rfl ?_
        refine x_getI (pc2 := 36) (f := 308) C (by assumption) kf_4_193 dX4_runProgram_33 rfl rfl rfl ?_
        refine x_aload_n (pc2 := 37) C dX4_runProgram_36 3 rfl rfl rfl ?_
        refine x_getI (pc2 := 40) (f := 309) C (by assumption) kf_4_190 dX4_runProgram_37 rfl rfl rfl ?_
        refine x_ret (rest := []) (st2 := [_]) (pc2 := 43) (cu2 := 0) (su2 := 0) (x_cV C (by assumption) (Nat.le_of_ble_eq_true rfl) kmX5_operationAt rfl kk_4_201 (tX5_operationAt hok (by assumption)) rfl rfl (Nat.le_of_ble_eq_true rfl) ⟨Nat.le_of_ble_eq_true rfl, Nat.le_of_ble_eq_true rfl⟩ ⟨Nat.le_of_ble_eq_true rfl, Nat.le_of_ble_eq_true rfl⟩ dX4_runProgram_40) rfl rfl rfl rfl ?_
        refine x_istore (pc2 := 45) (lv2 := [(4, _), (3, _), (0, _), (1, _), (2, _)]) C dX4_runProgram_43 (by decide) rfl rfl ?_
        refine x_aload_n (pc2 := 46) C dX4_runProgram_45 2 rfl rfl rfl ?_
        refine x_getR (f := 400) (k2 := 5) (pc2 := 49) C (by assumption) kf_4_34 dX4_runProgram_46 rfl rfl rfl (rti_i rfl) rfl (fun qd_5 => ?_)
        refine x_aload_n (pc2 := 50) C dX4_runProgram_49 4 rfl rfl rfl ?_
        refine x_getI (pc2 := 53) (f := 308) C (by assumption) kf_4_193 dX4_runProgram_50 rfl rfl rfl ?_
        refine x_aload_n (pc2 := 54) C dX4_runProgram_53 4 rfl rfl rfl ?_
        refine x_getI (pc2 := 57) (f := 309) C (by assumption) kf_4_190 dX4_runProgram_54 rfl rfl rfl ?_
        refine x_ret (rest := []) (st2 := [_]) (pc2 := 60) (cu2 := 0) (su2 := 0) (x_cV C (by assumption) (Nat.le_of_ble_eq_true rfl) kmX5_argumentAt rfl kk_4_204 (tX5_argumentAt hok (by assumption)) rfl rfl (Nat.le_of_ble_eq_true rfl) ⟨Nat.le_of_ble_eq_true rfl, Nat.le_of_ble_eq_true rfl⟩ ⟨Nat.le_of_ble_eq_true rfl, Nat.le_of_ble_eq_true rfl⟩ dX4_runProgram_57) rfl rfl rfl rfl ?_
        refine x_istore (pc2 := 62) (lv2 := [(5, _), (4, _), (3, _), (0, _), (1, _), (2, _)]) C dX4_runProgram_60 (by decide) rfl rfl ?_
        refine x_getsN (pc2 := 65) (q := 1) C (by decide) kg_4_207 dX4_runProgram_62 rfl ?_
        refine x_iload (pc2 := 67) C dX4_runProgram_65 1 rfl rfl ?_
        refine x_ret (rest := []) (st2 := [_]) (pc2 := 70) (cu2 := 0) (su2 := 0) (x_cSN C kmX10_at ke_4_129 (tX10_at_s hok (by decide)) rfl rfl (Nat.le_of_ble_eq_true rfl) ⟨Nat.le_of_ble_eq_true rfl, Nat.le_of_ble_eq_true rfl⟩ ⟨Nat.le_of_ble_eq_true rfl, Nat.le_of_ble_eq_true rfl⟩ dX4_runProgram_67) rfl rfl rfl rfl ?_
        refine x_aload_n (pc2 := 71) C dX4_runProgram_70 3 rfl rfl rfl ?_
        refine x_aload_n (pc2 := 72) C dX4_runProgram_71 5 rfl rfl rfl ?_
        refine x_iload (pc2 := 74) C dX4_runProgram_72 1 rfl rfl ?_
        refine x_iload (pc2 := 76) C dX4_runProgram_74 0 rfl rfl ?_
        rcases hq_6 : fX4_extraGas Ω b sg y2 (fX5_operationAt Ω 0 (xI Ω 308 y2 0) (xI Ω 309 y2 0)) (fX5_argumentAt Ω 0 (xI Ω 308 y2 0) (xI Ω 309 y2 0)) with _ | r_6
        · exact absurd hf (by rw [fX4_runProgram_l2, if_neg qc_1, if_pos qc_3, hq_6, Option.bind_none]; exact nofun)
        refine x_ret (rest := [_]) (st2 := [_, _]) (pc2 := 79) (cu2 := 0) (su2 := 0) (x_cV C (by assumption) (Nat.le_of_ble_eq_true rfl) kmX4_extraGas rfl kk_4_210 (tX4_extraGas hok (by assumption) (by assumption) (by assumption) (by assumption)  hq_6) rfl rfl (Nat.le_of_ble_eq_true rfl) ⟨Nat.le_of_ble_eq_true rfl, Nat.le_of_ble_eq_true rfl⟩ ⟨Nat.le_of_ble_eq_true rfl, Nat.le_of_ble_eq_true rfl⟩ dX4_runProgram_76) rfl rfl rfl rfl ?_
        refine x_iadd (pc2 := 80) C dX4_runProgram_79 rfl ?_
        refine x_istore (pc2 := 82) (lv2 := [(6, _), (5, _), (4, _), (3, _), (0, _), (1, _), (2, _)]) C dX4_runProgram_80 (by decide) rfl rfl ?_
        refine x_aload_n (pc2 := 83) C dX4_runProgram_82 6 rfl rfl rfl ?_
        refine x_iload (pc2 := 85) C dX4_runProgram_83 2 rfl rfl ?_
        refine x_ret (rest := []) (st2 := [_]) (pc2 := 88) (cu2 := 0) (su2 := 0) (x_cV C (by assumption) (Nat.le_of_ble_eq_true rfl) kmX3_heapAllows rfl kk_4_214 (tX3_heapAllows hok (by assumption)) rfl rfl (Nat.le_of_ble_eq_true rfl) ⟨Nat.le_of_ble_eq_true rfl, Nat.le_of_ble_eq_true rfl⟩ ⟨Nat.le_of_ble_eq_true rfl, Nat.le_of_ble_eq_true rfl⟩ dX4_runProgram_85) rfl rfl rfl rfl ?_
        refine x_if_eq (tgt := 100) (pc2 := 91) C dX4_runProgram_88 (by decide) rfl (fun qc_7 => ?_) (fun qc_7 => ?_)
        · refine x_aload_n (pc2 := 101) C dX4_runProgram_100 6 rfl rfl rfl ?_
          refine x_iconst (pc2 := 102) (v := 0) C dX4_runProgram_101 rfl rfl ?_
          refine x_putI (pc2 := 105) (f := 310) C (by assumption) kf_4_70 dX4_runProgram_102 rfl rfl rfl rfl rfl ?_
          obtain ⟨Ω_8, hw_8⟩ : ∃ z, z = uI Ω 310 y2 0 (0 : Int32) := ⟨_, rfl⟩
          refine x_om hw_8 ?_
          refine x_iconst (pc2 := 106) (v := 0) C dX4_runProgram_105 rfl rfl ?_
          rw [fX4_runProgram_l2, if_neg qc_1, if_pos qc_3, hq_6, Option.bind_some, if_pos qc_7, wl_eq hw_8] at hf
          obtain ⟨hT9, hW9⟩ := hk _ (Option.some.inj hf).symm
          exact x_zreturn C dX4_runProgram_106 rfl (by first | exact Or.inl rfl | exact Or.inr rfl) (Nat.le_of_ble_eq_true rfl) (Nat.le_of_ble_eq_true rfl) hT9 hW9
        · refine x_iload (pc2 := 93) C dX4_runProgram_91 0 rfl rfl ?_
          refine x_aload_n (pc2 := 94) C dX4_runProgram_93 6 rfl rfl rfl ?_
          refine x_getI (pc2 := 97) (f := 310) C (by assumption) kf_4_70 dX4_runProgram_94 rfl rfl rfl ?_
          refine x_icmp_le (tgt := 107) (pc2 := 100) C dX4_runProgram_97 (by decide) rfl (fun qc_9 => ?_) (fun qc_9 => ?_)
          · refine x_aload_n (pc2 := 108) C dX4_runProgram_107 6 rfl rfl rfl ?_
            refine x_dup (pc2 := 109) C dX4_runProgram_108 rfl rfl ?_
            refine x_getI (pc2 := 112) (f := 310) C (by assumption) kf_4_70 dX4_runProgram_109 rfl rfl rfl ?_
            refine x_iload (pc2 := 114) C dX4_runProgram_112 0 rfl rfl ?_
            refine x_isub (pc2 := 115) C dX4_runProgram_114 rfl ?_
            refine x_putI (pc2 := 118) (f := 310) C (by assumption) kf_4_70 dX4_runProgram_115 rfl rfl rfl rfl rfl ?_
            obtain ⟨Ω_10, hw_10⟩ : ∃ z, z = uI Ω 310 y2 0 ((xI Ω 310 y2 0) - ((sTb 1 (fX5_operationAt Ω 0 (xI Ω 308 y2 0) (xI Ω 309 y2 0))) + r_6)) := ⟨_, rfl⟩
            refine x_om hw_10 ?_
            refine x_aload_n (pc2 := 119) C dX4_runProgram_118 6 rfl rfl rfl ?_
            refine x_dup (pc2 := 120) C dX4_runProgram_119 rfl rfl ?_
            refine x_getI (pc2 := 123) (f := 309) C (by assumption) kf_4_190 dX4_runProgram_120 rfl rfl rfl ?_
            refine x_iconst (pc2 := 124) (v := 1) C dX4_runProgram_123 rfl rfl ?_
            refine x_iadd (pc2 := 125) C dX4_runProgram_124 rfl ?_
            refine x_putI (pc2 := 128) (f := 309) C (by assumption) kf_4_190 dX4_runProgram_125 rfl rfl rfl rfl rfl ?_
            obtain ⟨Ω_11, hw_11⟩ : ∃ z, z = uI Ω_10 309 y2 0 ((xI Ω_10 309 y2 0) + (1 : Int32)) := ⟨_, rfl⟩
            refine x_om hw_11 ?_
            refine x_iload (pc2 := 130) C dX4_runProgram_128 2 rfl rfl ?_
            refine x_bipush (pc2 := 132) (v := 22) C dX4_runProgram_130 rfl rfl ?_
            refine x_icmp_lt (tgt := 143) (pc2 := 135) C dX4_runProgram_132 (by decide) rfl (fun qc_12 => ?_) (fun qc_12 => ?_)
            · refine x_iload (pc2 := 145) C dX4_runProgram_143 2 rfl rfl ?_
              refine x_bipush (pc2 := 147) (v := 19) C dX4_runProgram_145 rfl rfl ?_
              refine x_icmp_ne (tgt := 159) (pc2 := 150) C dX4_runProgram_147 (by decide) rfl (fun qc_13 => ?_) (fun qc_13 => ?_)
              · refine x_iload (pc2 := 161) C dX4_runProgram_159 2 rfl rfl ?_
                refine x_bipush (pc2 := 163) (v := 21) C dX4_runProgram_161 rfl rfl ?_
                refine x_icmp_ne (tgt := 176) (pc2 := 166) C dX4_runProgram_163 (by decide) rfl (fun qc_14 => ?_) (fun qc_14 => ?_)
                · refine x_aload_n (pc2 := 177) C dX4_runProgram_176 4 rfl rfl rfl ?_
                  refine x_aload_n (pc2 := 178) C dX4_runProgram_177 6 rfl rfl rfl ?_
                  refine x_iload (pc2 := 180) C dX4_runProgram_178 2 rfl rfl ?_
                  refine x_iload (pc2 := 182) C dX4_runProgram_180 1 rfl rfl ?_
                  rcases hq_15 : fX4_touchState Ω_11 b sg y2 (fX5_operationAt Ω 0 (xI Ω 308 y2 0) (xI Ω 309 y2 0)) (fX5_argumentAt Ω 0 (xI Ω 308 y2 0) (xI Ω 309 y2 0)) with _ | r_15
                  · exact absurd hf (by rw [fX4_runProgram_l2, if_neg qc_1, if_pos qc_3, hq_6, Option.bind_some, if_neg qc_7, if_pos qc_9, wl_eq hw_10, wl_eq hw_11, if_pos qc_12, if_neg qc_13, if_neg qc_14, hq_15, Option.bind_none]; exact nofun)
                  refine x_ret (rest := []) (st2 := [_]) (pc2 := 185) (cu2 := 0) (su2 := 0) (x_cV C (by assumption) (Nat.le_of_ble_eq_true rfl) kmX4_touchState rfl kk_4_229 (tX4_touchState hok (by assumption) (by assumption) (by assumption) (by assumption)  hq_15) rfl rfl (Nat.le_of_ble_eq_true rfl) ⟨Nat.le_of_ble_eq_true rfl, Nat.le_of_ble_eq_true rfl⟩ ⟨Nat.le_of_ble_eq_true rfl, Nat.le_of_ble_eq_true rfl⟩ dX4_runProgram_182) rfl rfl rfl rfl ?_
                  refine x_if_ne (tgt := 196) (pc2 := 188) C dX4_runProgram_185 (by decide) rfl (fun qc_16 => ?_) (fun qc_16 => ?_)
                  · refine x_iinc (pc2 := 199) (v := y3 + 1) (lv2 := [(3, _), (6, _), (5, _), (4, _), (0, _), (1, _), (2, _)]) C dX4_runProgram_196 3 rfl rfl (by decide) rfl rfl ?_
                    refine x_goto (tgt := 2) C dX4_runProgram_199 (by decide) ?_
                    exact x_sub (lv2 := [(3, _), (0, _), (1, _), (2, _)]) C [0, 4, 5, 6] rfl (ih (y3 + 1) r_15.2 (by rw [fX4_runProgram_l2, if_neg qc_1, if_pos qc_3, hq_6, Option.bind_some, if_neg qc_7, if_pos qc_9, wl_eq hw_10, wl_eq hw_11, if_pos qc_12, if_neg qc_13, if_neg qc_14, hq_15, Option.bind_some, if_neg qc_16] at hf; exact hf) hk hk2)
                  · refine x_aload_n (pc2 := 189) C dX4_runProgram_188 6 rfl rfl rfl ?_
                    refine x_iload (pc2 := 191) C dX4_runProgram_189 2 rfl rfl ?_
                    refine x_iload (pc2 := 193) C dX4_runProgram_191 1 rfl rfl ?_
                    refine x_ret (rest := []) (st2 := []) (pc2 := 196) (cu2 := 0) (su2 := 0) (x_cV C (by assumption) (Nat.le_of_ble_eq_true rfl) kmX3_perform rfl kk_4_233 (tX3_perform hok (by assumption)) rfl rfl (Nat.le_of_ble_eq_true rfl) ⟨Nat.le_of_ble_eq_true rfl, Nat.le_of_ble_eq_true rfl⟩ ⟨Nat.le_of_ble_eq_true rfl, Nat.le_of_ble_eq_true rfl⟩ dX4_runProgram_193) rfl rfl rfl rfl ?_
                    obtain ⟨Ω_17, hw_17⟩ : ∃ z, z = fX3_perform r_15.2 y2 (fX5_operationAt Ω 0 (xI Ω 308 y2 0) (xI Ω 309 y2 0)) (fX5_argumentAt Ω 0 (xI Ω 308 y2 0) (xI Ω 309 y2 0)) := ⟨_, rfl⟩
                    refine x_om hw_17 ?_
                    refine x_iinc (pc2 := 199) (v := y3 + 1) (lv2 := [(3, _), (6, _), (5, _), (4, _), (0, _), (1, _), (2, _)]) C dX4_runProgram_196 3 rfl rfl (by decide) rfl rfl ?_
                    refine x_goto (tgt := 2) C dX4_runProgram_199 (by decide) ?_
                    exact x_sub (lv2 := [(3, _), (0, _), (1, _), (2, _)]) C [0, 4, 5, 6] rfl (ih (y3 + 1) Ω_17 (by rw [fX4_runProgram_l2, if_neg qc_1, if_pos qc_3, hq_6, Option.bind_some, if_neg qc_7, if_pos qc_9, wl_eq hw_10, wl_eq hw_11, if_pos qc_12, if_neg qc_13, if_neg qc_14, hq_15, Option.bind_some, if_pos qc_16, wl_eq hw_17] at hf; exact hf) hk hk2)
                · refine x_aload_n (pc2 := 167) C dX4_runProgram_166 4 rfl rfl rfl ?_
                  refine x_aload_n (pc2 := 168) C dX4_runProgram_167 6 rfl rfl rfl ?_
                  refine x_iload (pc2 := 170) C dX4_runProgram_168 1 rfl rfl ?_
                  rcases hq_18 : fX4_makeFrom Ω_11 b sg y2 (fX5_argumentAt Ω 0 (xI Ω 308 y2 0) (xI Ω 309 y2 0)) with _ | r_18
                  · exact absurd hf (by rw [fX4_runProgram_l2, if_neg qc_1, if_pos qc_3, hq_6, Option.bind_some, if_neg qc_7, if_pos qc_9, wl_eq hw_10, wl_eq hw_11, if_pos qc_12, if_neg qc_13, if_pos qc_14, hq_18, Option.bind_none]; exact nofun)
                  refine x_ret (rest := []) (st2 := []) (pc2 := 173) (cu2 := 0) (su2 := 0) (x_cV C (by assumption) (Nat.le_of_ble_eq_true rfl) kmX4_makeFrom rfl kk_4_225 (tX4_makeFrom hok (by assumption) (by assumption) (by assumption) (by assumption)  hq_18) rfl rfl (Nat.le_of_ble_eq_true rfl) ⟨Nat.le_of_ble_eq_true rfl, Nat.le_of_ble_eq_true rfl⟩ ⟨Nat.le_of_ble_eq_true rfl, Nat.le_of_ble_eq_true rfl⟩ dX4_runProgram_170) rfl rfl rfl rfl ?_
                  refine x_goto (tgt := 196) C dX4_runProgram_173 (by decide) ?_
                  refine x_iinc (pc2 := 199) (v := y3 + 1) (lv2 := [(3, _), (6, _), (5, _), (4, _), (0, _), (1, _), (2, _)]) C dX4_runProgram_196 3 rfl rfl (by decide) rfl rfl ?_
                  refine x_goto (tgt := 2) C dX4_runProgram_199 (by decide) ?_
                  exact x_sub (lv2 := [(3, _), (0, _), (1, _), (2, _)]) C [0, 4, 5, 6] rfl (ih (y3 + 1) r_18 (by rw [fX4_runProgram_l2, if_neg qc_1, if_pos qc_3, hq_6, Option.bind_some, if_neg qc_7, if_pos qc_9, wl_eq hw_10, wl_eq hw_11, if_pos qc_12, if_neg qc_13, if_pos qc_14, hq_18, Option.bind_some] at hf; exact hf) hk hk2)
              · refine x_aload_n (pc2 := 151) C dX4_runProgram_150 4 rfl rfl rfl ?_
                refine x_iload_n (pc2 := 152) C dX4_runProgram_151 5 rfl rfl rfl ?_
                refine x_aload_n (pc2 := 153) C dX4_runProgram_152 6 rfl rfl rfl ?_
                rcases hq_19 : fX4_callFrom Ω_11 b sg dl y1 y2 with _ | r_19
                · exact absurd hf (by rw [fX4_runProgram_l2, if_neg qc_1, if_pos qc_3, hq_6, Option.bind_some, if_neg qc_7, if_pos qc_9, wl_eq hw_10, wl_eq hw_11, if_pos qc_12, if_pos qc_13, hq_19, Option.bind_none]; exact nofun)
                refine x_ret (rest := []) (st2 := []) (pc2 := 156) (cu2 := 0) (su2 := 0) (x_cV C (by assumption) (Nat.le_of_ble_eq_true rfl) kmX4_callFrom rfl kk_4_221 (tX4_callFrom_2 hok (by assumption) (by assumption) (by assumption) (by assumption)  hdl hq_19) rfl rfl (Nat.le_of_ble_eq_true rfl) ⟨Nat.le_of_ble_eq_true rfl, Nat.le_of_ble_eq_true rfl⟩ ⟨Nat.le_of_ble_eq_true rfl, Nat.le_of_ble_eq_true rfl⟩ dX4_runProgram_153) rfl rfl rfl rfl ?_
                refine x_goto (tgt := 196) C dX4_runProgram_156 (by decide) ?_
                refine x_iinc (pc2 := 199) (v := y3 + 1) (lv2 := [(3, _), (6, _), (5, _), (4, _), (0, _), (1, _), (2, _)]) C dX4_runProgram_196 3 rfl rfl (by decide) rfl rfl ?_
                refine x_goto (tgt := 2) C dX4_runProgram_199 (by decide) ?_
                exact x_sub (lv2 := [(3, _), (0, _), (1, _), (2, _)]) C [0, 4, 5, 6] rfl (ih (y3 + 1) r_19 (by rw [fX4_runProgram_l2, if_neg qc_1, if_pos qc_3, hq_6, Option.bind_some, if_neg qc_7, if_pos qc_9, wl_eq hw_10, wl_eq hw_11, if_pos qc_12, if_pos qc_13, hq_19, Option.bind_some] at hf; exact hf) hk hk2)
            · refine x_aload_n (pc2 := 136) C dX4_runProgram_135 4 rfl rfl rfl ?_
              refine x_aload_n (pc2 := 137) C dX4_runProgram_136 6 rfl rfl rfl ?_
              refine x_iload (pc2 := 139) C dX4_runProgram_137 2 rfl rfl ?_
              rcases hq_20 : fX4_finish Ω_11 b sg y2 (fX5_operationAt Ω 0 (xI Ω 308 y2 0) (xI Ω 309 y2 0)) with _ | r_20
              · exact absurd hf (by rw [fX4_runProgram_l2, if_neg qc_1, if_pos qc_3, hq_6, Option.bind_some, if_neg qc_7, if_pos qc_9, wl_eq hw_10, wl_eq hw_11, if_neg qc_12, hq_20, Option.bind_none]; exact nofun)
              refine x_ret (rest := []) (st2 := [_]) (pc2 := 142) (cu2 := 0) (su2 := 0) (x_cV C (by assumption) (Nat.le_of_ble_eq_true rfl) kmX4_finish rfl kk_4_217 (tX4_finish hok (by assumption) (by assumption) (by assumption) (by assumption)  hq_20) rfl rfl (Nat.le_of_ble_eq_true rfl) ⟨Nat.le_of_ble_eq_true rfl, Nat.le_of_ble_eq_true rfl⟩ ⟨Nat.le_of_ble_eq_true rfl, Nat.le_of_ble_eq_true rfl⟩ dX4_runProgram_139) rfl rfl rfl rfl ?_
              rcases (Decidable.em (r_20.1 = 0 ∨ r_20.1 = 1)).symm with qg_21 | qg_21
              · exact absurd hf (by rw [fX4_runProgram_l2, if_neg qc_1, if_pos qc_3, hq_6, Option.bind_some, if_neg qc_7, if_pos qc_9, wl_eq hw_10, wl_eq hw_11, if_neg qc_12, hq_20, Option.bind_some, if_neg qg_21]; exact nofun)
              rw [fX4_runProgram_l2, if_neg qc_1, if_pos qc_3, hq_6, Option.bind_some, if_neg qc_7, if_pos qc_9, wl_eq hw_10, wl_eq hw_11, if_neg qc_12, hq_20, Option.bind_some, if_pos qg_21] at hf
              obtain ⟨hT9, hW9⟩ := hk _ (Option.some.inj hf).symm
              exact x_zreturn C dX4_runProgram_142 rfl qg_21 (Nat.le_of_ble_eq_true rfl) (Nat.le_of_ble_eq_true rfl) hT9 hW9
          · refine x_aload_n (pc2 := 101) C dX4_runProgram_100 6 rfl rfl rfl ?_
            refine x_iconst (pc2 := 102) (v := 0) C dX4_runProgram_101 rfl rfl ?_
            refine x_putI (pc2 := 105) (f := 310) C (by assumption) kf_4_70 dX4_runProgram_102 rfl rfl rfl rfl rfl ?_
            obtain ⟨Ω_22, hw_22⟩ : ∃ z, z = uI Ω 310 y2 0 (0 : Int32) := ⟨_, rfl⟩
            refine x_om hw_22 ?_
            refine x_iconst (pc2 := 106) (v := 0) C dX4_runProgram_105 rfl rfl ?_
            rw [fX4_runProgram_l2, if_neg qc_1, if_pos qc_3, hq_6, Option.bind_some, if_neg qc_7, if_neg qc_9, wl_eq hw_22] at hf
            obtain ⟨hT9, hW9⟩ := hk _ (Option.some.inj hf).symm
            exact x_zreturn C dX4_runProgram_106 rfl (by first | exact Or.inl rfl | exact Or.inr rfl) (Nat.le_of_ble_eq_true rfl) (Nat.le_of_ble_eq_true rfl) hT9 hW9
      · refine x_iconst (pc2 := 27) (v := 1) C dX4_runProgram_26 rfl rfl ?_
        rw [fX4_runProgram_l2, if_neg qc_1, if_neg qc_3] at hf
        obtain ⟨hT9, hW9⟩ := hk _ (Option.some.inj hf).symm
        exact x_zreturn C dX4_runProgram_27 rfl (by first | exact Or.inl rfl | exact Or.inr rfl) (Nat.le_of_ble_eq_true rfl) (Nat.le_of_ble_eq_true rfl) hT9 hW9
set_option maxRecDepth 20000 in
theorem tX4_runProgram_2 {G : XG} (hok : XK G) {b : Nat} {sg : Nat} {dl : XO → Int32 → Int32 → Int32 → Int32 → Int32 → Int32 → Option (Int32 × XO)} {x1 : Int32} {i2 : Nat} {Ω : XO} (hd0 : dm G 4 0) (hd2 : dm G 3 i2) (db : dm G 0 b) (ds : dm G 6 sg) (hdl : ∀ {Ω : XO} {x1 x2 x3 x4 x5 x6 : Int32} {r : Int32 × XO}, dl Ω x1 x2 x3 x4 x5 x6 = some r → XM G yX4_deliver cX4_deliver 10 ((some FieldType.boolean)) (RM 7 0) [.ref (ad G 4 0), .int x1, .int x2, .int x3, .int x4, .int x5, .int x6] Ω (.inl (some (.int r.1))) r.2) {r : Int32 × XO} (hf : fX4_runProgram Ω b sg dl x1 i2 = some r) : XM G yX4_runProgram cX4_runProgram 7 ((some FieldType.boolean)) (RM 9 0) [.ref (ad G 4 0), .int x1, .ref (ad G 3 i2)] Ω (.inl (some (.int (r.1)))) r.2 := by
  refine x_start (lv := [(0, .ref (ad G 4 0)), (1, .int x1), (2, .ref (ad G 3 i2))]) (own := RX4) hok (by decide +kernel) rfl (Nat.le_of_ble_eq_true rfl) rfl (fun B C => ?_)
  refine x_iconst (pc2 := 1) (v := 0) C dX4_runProgram_0 rfl rfl ?_
  refine x_istore_n (pc2 := 2) (lv2 := [(3, _), (0, _), (1, _), (2, _)]) C dX4_runProgram_1 rfl (by decide) rfl rfl ?_
  rcases hq_1 : fX4_runProgram_l2 b sg dl x1 i2 1000001 (0 : Int32) Ω with _ | (v_1 | q_1)
  · exact absurd hf (by rw [fX4_runProgram, hq_1, Option.bind_none]; exact nofun)
  · exact x_sub (lv2 := [(3, _), (0, _), (1, _), (2, _)]) C [0, 1, 2, 3] rfl (lX4_runProgram_l2_2 hok (by assumption) (by assumption) (by assumption) (by assumption) hdl C 1000001 (0 : Int32) Ω hq_1 (fun v9 h9 => by cases h9; rw [fX4_runProgram, hq_1, Option.bind_some, Sum.elim_inl] at hf; cases hf; exact ⟨rfl, rfl⟩) (fun _ h9 => nomatch h9))
  refine x_sub (lv2 := [(3, _), (0, _), (1, _), (2, _)]) C [0, 1, 2, 3] rfl (lX4_runProgram_l2_2 hok (by assumption) (by assumption) (by assumption) (by assumption) hdl C 1000001 (0 : Int32) Ω hq_1 (fun _ h9 => nomatch h9) (fun q9 h9 => ?_))
  cases h9
  refine x_iconst (pc2 := 203) (v := 0) C dX4_runProgram_202 rfl rfl ?_
  rw [fX4_runProgram, hq_1, Option.bind_some, Sum.elim_inr] at hf
  cases hf
  exact x_zreturn C dX4_runProgram_203 rfl (by first | exact Or.inl rfl | exact Or.inr rfl) (Nat.le_of_ble_eq_true rfl) (Nat.le_of_ble_eq_true rfl) rfl rfl
set_option maxRecDepth 20000 in
theorem tX4_deliver_s_2 {G : XG} (hok : XK G) {b : Nat} {sg : Nat} {dl : XO → Int32 → Int32 → Int32 → Int32 → Int32 → Int32 → Option (Int32 × XO)} {x1 : Int32} {x2 : Int32} {x3 : Int32} {x4 : Int32} {x5 : Int32} {x6 : Int32} {Ω : XO} (hd0 : dm G 4 0) (db : dm G 0 b) (ds : dm G 6 sg) (hdl : ∀ {Ω : XO} {x1 x2 x3 x4 x5 x6 : Int32} {r : Int32 × XO}, dl Ω x1 x2 x3 x4 x5 x6 = some r → XM G yX4_deliver cX4_deliver 10 ((some FieldType.boolean)) (RM 7 0) [.ref (ad G 4 0), .int x1, .int x2, .int x3, .int x4, .int x5, .int x6] Ω (.inl (some (.int r.1))) r.2) {r : Int32 × XO} (hf : fX4_deliver_s Ω b sg dl x1 x2 x3 x4 x5 x6 = some r) : XM G yX4_deliver cX4_deliver 10 ((some FieldType.boolean)) (RM 10 0) [.ref (ad G 4 0), .int x1, .int x2, .int x3, .int x4, .int x5, .int x6] Ω (.inl (some (.int (r.1)))) r.2 := by
  refine x_start (lv := [(0, .ref (ad G 4 0)), (1, .int x1), (2, .int x2), (3, .int x3), (4, .int x4), (5, .int x5), (6, .int x6)]) (own := RX4) hok (by decide +kernel) rfl (Nat.le_of_ble_eq_true rfl) rfl (fun B C => ?_)
  refine x_iload_n (pc2 := 1) C dX4_deliver_0 1 rfl rfl rfl ?_
  refine x_iconst (pc2 := 2) (v := 1) C dX4_deliver_1 rfl rfl ?_
  refine x_icmp_lt (tgt := 10) (pc2 := 5) C dX4_deliver_2 (by decide) rfl (fun qc_1 => ?_) (fun qc_1 => ?_)
  · refine x_iconst (pc2 := 11) (v := 0) C dX4_deliver_10 rfl rfl ?_
    rw [fX4_deliver_s, if_pos qc_1] at hf
    cases hf
    exact x_zreturn C dX4_deliver_11 rfl (by first | exact Or.inl rfl | exact Or.inr rfl) (Nat.le_of_ble_eq_true rfl) (Nat.le_of_ble_eq_true rfl) rfl rfl
  · refine x_iload_n (pc2 := 6) C dX4_deliver_5 1 rfl rfl rfl ?_
    refine x_iconst (pc2 := 7) (v := 4) C dX4_deliver_6 rfl rfl ?_
    refine x_icmp_le (tgt := 12) (pc2 := 10) C dX4_deliver_7 (by decide) rfl (fun qc_2 => ?_) (fun qc_2 => ?_)
    · refine x_aload_n (pc2 := 13) C dX4_deliver_12 0 rfl rfl rfl ?_
      refine x_getR (f := 401) (k2 := 2007) (pc2 := 16) C (by assumption) kf_4_11 dX4_deliver_13 rfl rfl rfl (rti_i rfl) rfl (fun qd_3 => ?_)
      refine x_iload_n (pc2 := 17) C dX4_deliver_16 1 rfl rfl rfl ?_
      refine x_iconst (pc2 := 18) (v := 1) C dX4_deliver_17 rfl rfl ?_
      refine x_isub (pc2 := 19) C dX4_deliver_18 rfl ?_
      rcases (Decidable.em (inB (x1 - (1 : Int32)) 4)).symm with qg_4 | qg_4
      · exact absurd hf (by rw [fX4_deliver_s, if_neg qc_1, if_pos qc_2, if_neg qg_4]; exact nofun)
      refine x_aald (k2 := 3) (pc2 := 20) C (by assumption) dX4_deliver_19 rfl rfl (inB_in qg_4) rfl (eli_2007 _ _) rfl (fun qd_5 => ?_)
      refine x_astore (pc2 := 22) (lv2 := [(7, _), (0, _), (1, _), (2, _), (3, _), (4, _), (5, _), (6, _)]) C dX4_deliver_20 (by decide) rfl rfl ?_
      refine x_aload (pc2 := 24) C dX4_deliver_22 0 rfl rfl ?_
      refine x_iload (pc2 := 26) C dX4_deliver_24 7 rfl rfl ?_
      refine x_putI (pc2 := 29) (f := 310) C (by assumption) kf_4_70 dX4_deliver_26 rfl rfl rfl rfl rfl ?_
      obtain ⟨Ω_6, hw_6⟩ : ∃ z, z = uI Ω 310 ((x1 - (1 : Int32)).toNatClampNeg) 0 x6 := ⟨_, rfl⟩
      refine x_om hw_6 ?_
      refine x_aload_n (pc2 := 30) C dX4_deliver_29 1 rfl rfl rfl ?_
      rcases (Decidable.em (xR Ω_6 404 0 = sg)).symm with qg_7 | qg_7
      · exact absurd hf (by rw [fX4_deliver_s, if_neg qc_1, if_pos qc_2, if_pos qg_4, wl_eq hw_6, if_neg qg_7]; exact nofun)
      refine x_getM (pc2 := 33) (f := 404) (k2 := 6) (v9 := sg) C (by assumption) kf_4_33 dX4_deliver_30 rfl rfl rfl qg_7 rfl ?_
      refine x_getR (f := 602) (k2 := 2013) (pc2 := 36) C (by assumption) kf_4_147 dX4_deliver_33 rfl rfl rfl (rti_i rfl) rfl (fun qd_8 => ?_)
      refine x_iload_n (pc2 := 37) C dX4_deliver_36 4 rfl rfl rfl ?_
      refine x_ret (rest := []) (st2 := [_]) (pc2 := 40) (cu2 := 0) (su2 := 0) (x_cSN C kmX10_at ke_4_129 (tX10_at hok (by assumption) rfl (by decide)) rfl rfl (Nat.le_of_ble_eq_true rfl) ⟨Nat.le_of_ble_eq_true rfl, Nat.le_of_ble_eq_true rfl⟩ ⟨Nat.le_of_ble_eq_true rfl, Nat.le_of_ble_eq_true rfl⟩ dX4_deliver_37) rfl rfl rfl rfl ?_
      refine x_istore (pc2 := 42) (lv2 := [(8, _), (7, _), (0, _), (1, _), (2, _), (3, _), (4, _), (5, _), (6, _)]) C dX4_deliver_40 (by decide) rfl rfl ?_
      refine x_iload (pc2 := 44) C dX4_deliver_42 0 rfl rfl ?_
      refine x_if_ne (tgt := 60) (pc2 := 47) C dX4_deliver_44 (by decide) rfl (fun qc_9 => ?_) (fun qc_9 => ?_)
      · refine x_aload (pc2 := 62) C dX4_deliver_60 1 rfl rfl ?_
        refine x_iload (pc2 := 64) C dX4_deliver_62 0 rfl rfl ?_
        refine x_iconst (pc2 := 65) (v := 1) C dX4_deliver_64 rfl rfl ?_
        refine x_isub (pc2 := 66) C dX4_deliver_65 rfl ?_
        refine x_iload_n (pc2 := 67) C dX4_deliver_66 4 rfl rfl rfl ?_
        refine x_iload_n (pc2 := 68) C dX4_deliver_67 5 rfl rfl rfl ?_
        refine x_iload (pc2 := 70) C dX4_deliver_68 6 rfl rfl ?_
        refine x_iload (pc2 := 72) C dX4_deliver_70 7 rfl rfl ?_
        refine x_ret (rest := []) (st2 := []) (pc2 := 75) (cu2 := 0) (su2 := 0) (x_cV C (by assumption) (Nat.le_of_ble_eq_true rfl) kmX3_open rfl kk_4_157 (tX3_open hok (by assumption)) rfl rfl (Nat.le_of_ble_eq_true rfl) ⟨Nat.le_of_ble_eq_true rfl, Nat.le_of_ble_eq_true rfl⟩ ⟨Nat.le_of_ble_eq_true rfl, Nat.le_of_ble_eq_true rfl⟩ dX4_deliver_72) rfl rfl rfl rfl ?_
        obtain ⟨Ω_10, hw_10⟩ : ∃ z, z = fX3_open Ω_6 ((x1 - (1 : Int32)).toNatClampNeg) ((sAt Ω_6 2013 sg x3) - (1 : Int32)) x2 x3 x4 x5 := ⟨_, rfl⟩
        refine x_om hw_10 ?_
        refine x_aload (pc2 := 77) C dX4_deliver_75 1 rfl rfl ?_
        refine x_aload_n (pc2 := 78) C dX4_deliver_77 2 rfl rfl rfl ?_
        rcases (Decidable.em (xR Ω_10 404 0 = sg)).symm with qg_11 | qg_11
        · exact absurd hf (by rw [fX4_deliver_s, if_neg qc_1, if_pos qc_2, if_pos qg_4, wl_eq hw_6, if_pos qg_7, if_neg qc_9, wl_eq hw_10, if_neg qg_11]; exact nofun)
        refine x_getM (pc2 := 81) (f := 404) (k2 := 6) (v9 := sg) C (by assumption) kf_4_33 dX4_deliver_78 rfl rfl rfl qg_11 rfl ?_
        refine x_aload_n (pc2 := 82) C dX4_deliver_81 2 rfl rfl rfl ?_
        rcases (Decidable.em (xR Ω_10 403 0 = b)).symm with qg_12 | qg_12
        · exact absurd hf (by rw [fX4_deliver_s, if_neg qc_1, if_pos qc_2, if_pos qg_4, wl_eq hw_6, if_pos qg_7, if_neg qc_9, wl_eq hw_10, if_pos qg_11, if_neg qg_12]; exact nofun)
        refine x_getM (pc2 := 85) (f := 403) (k2 := 0) (v9 := b) C (by assumption) kf_4_26 dX4_deliver_82 rfl rfl rfl qg_12 rfl ?_
        refine x_getI (pc2 := 88) (f := 10) C (by assumption) kf_4_161 dX4_deliver_85 rfl rfl rfl ?_
        refine x_aload_n (pc2 := 89) C dX4_deliver_88 2 rfl rfl rfl ?_
        refine x_getI (pc2 := 92) (f := 406) C (by assumption) kf_4_67 dX4_deliver_89 rfl rfl rfl ?_
        refine x_ret (rest := []) (st2 := []) (pc2 := 95) (cu2 := 0) (su2 := 0) (x_cV C (by assumption) (Nat.le_of_ble_eq_true rfl) kmX3_save rfl kk_4_164 (tX3_save hok (by assumption) (by assumption)) rfl rfl (Nat.le_of_ble_eq_true rfl) ⟨Nat.le_of_ble_eq_true rfl, Nat.le_of_ble_eq_true rfl⟩ ⟨Nat.le_of_ble_eq_true rfl, Nat.le_of_ble_eq_true rfl⟩ dX4_deliver_92) rfl rfl rfl rfl ?_
        obtain ⟨Ω_13, hw_13⟩ : ∃ z, z = fX3_save Ω_10 ((x1 - (1 : Int32)).toNatClampNeg) sg (xI Ω_10 10 b 0) (xI Ω_10 406 0 0) := ⟨_, rfl⟩
        refine x_om hw_13 ?_
        refine x_aload_n (pc2 := 96) C dX4_deliver_95 2 rfl rfl rfl ?_
        rcases (Decidable.em (xR Ω_13 404 0 = sg)).symm with qg_14 | qg_14
        · exact absurd hf (by rw [fX4_deliver_s, if_neg qc_1, if_pos qc_2, if_pos qg_4, wl_eq hw_6, if_pos qg_7, if_neg qc_9, wl_eq hw_10, if_pos qg_11, if_pos qg_12, wl_eq hw_13, if_neg qg_14]; exact nofun)
        refine x_getM (pc2 := 99) (f := 404) (k2 := 6) (v9 := sg) C (by assumption) kf_4_33 dX4_deliver_96 rfl rfl rfl qg_14 rfl ?_
        refine x_iload_n (pc2 := 100) C dX4_deliver_99 4 rfl rfl rfl ?_
        refine x_iload_n (pc2 := 101) C dX4_deliver_100 5 rfl rfl rfl ?_
        refine x_iload (pc2 := 103) C dX4_deliver_101 6 rfl rfl ?_
        refine x_ret (rest := []) (st2 := []) (pc2 := 106) (cu2 := 0) (su2 := 0) (x_cV C (by assumption) (Nat.le_of_ble_eq_true rfl) kmX6_move rfl kk_4_139 (tX6_move hok (by assumption)) rfl rfl (Nat.le_of_ble_eq_true rfl) ⟨Nat.le_of_ble_eq_true rfl, Nat.le_of_ble_eq_true rfl⟩ ⟨Nat.le_of_ble_eq_true rfl, Nat.le_of_ble_eq_true rfl⟩ dX4_deliver_103) rfl rfl rfl rfl ?_
        obtain ⟨Ω_15, hw_15⟩ : ∃ z, z = fX6_move Ω_13 sg x2 x3 x4 := ⟨_, rfl⟩
        refine x_om hw_15 ?_
        refine x_aload_n (pc2 := 107) C dX4_deliver_106 2 rfl rfl rfl ?_
        refine x_iload_n (pc2 := 108) C dX4_deliver_107 3 rfl rfl rfl ?_
        refine x_aload (pc2 := 110) C dX4_deliver_108 1 rfl rfl ?_
        rcases hq_16 : fX4_runProgram Ω_15 b sg dl x1 ((x1 - (1 : Int32)).toNatClampNeg) with _ | r_16
        · exact absurd hf (by rw [fX4_deliver_s, if_neg qc_1, if_pos qc_2, if_pos qg_4, wl_eq hw_6, if_pos qg_7, if_neg qc_9, wl_eq hw_10, if_pos qg_11, if_pos qg_12, wl_eq hw_13, if_pos qg_14, wl_eq hw_15, hq_16, Option.bind_none]; exact nofun)
        refine x_ret (rest := []) (st2 := [_]) (pc2 := 113) (cu2 := 0) (su2 := 0) (x_cV C (by assumption) (Nat.le_of_ble_eq_true rfl) kmX4_runProgram rfl kk_4_168 (tX4_runProgram_2 hok (by assumption) (by assumption) (by assumption) (by assumption)  hdl hq_16) rfl rfl (Nat.le_of_ble_eq_true rfl) ⟨Nat.le_of_ble_eq_true rfl, Nat.le_of_ble_eq_true rfl⟩ ⟨Nat.le_of_ble_eq_true rfl, Nat.le_of_ble_eq_true rfl⟩ dX4_deliver_110) rfl rfl rfl rfl ?_
        refine x_istore (pc2 := 115) (lv2 := [(9, _), (8, _), (7, _), (0, _), (1, _), (2, _), (3, _), (4, _), (5, _), (6, _)]) C dX4_deliver_113 (by decide) rfl rfl ?_
        refine x_iload (pc2 := 117) C dX4_deliver_115 0 rfl rfl ?_
        refine x_if_ne (tgt := 126) (pc2 := 120) C dX4_deliver_117 (by decide) rfl (fun qc_17 => ?_) (fun qc_17 => ?_)
        · refine x_iload (pc2 := 128) C dX4_deliver_126 0 rfl rfl ?_
          rcases (Decidable.em (r_16.1 = 0 ∨ r_16.1 = 1)).symm with qg_18 | qg_18
          · exact absurd hf (by rw [fX4_deliver_s, if_neg qc_1, if_pos qc_2, if_pos qg_4, wl_eq hw_6, if_pos qg_7, if_neg qc_9, wl_eq hw_10, if_pos qg_11, if_pos qg_12, wl_eq hw_13, if_pos qg_14, wl_eq hw_15, hq_16, Option.bind_some, if_neg qc_17, if_neg qg_18]; exact nofun)
          rw [fX4_deliver_s, if_neg qc_1, if_pos qc_2, if_pos qg_4, wl_eq hw_6, if_pos qg_7, if_neg qc_9, wl_eq hw_10, if_pos qg_11, if_pos qg_12, wl_eq hw_13, if_pos qg_14, wl_eq hw_15, hq_16, Option.bind_some, if_neg qc_17, if_pos qg_18] at hf
          cases hf
          exact x_zreturn C dX4_deliver_128 rfl qg_18 (Nat.le_of_ble_eq_true rfl) (Nat.le_of_ble_eq_true rfl) rfl rfl
        · refine x_aload_n (pc2 := 121) C dX4_deliver_120 3 rfl rfl rfl ?_
          refine x_aload (pc2 := 123) C dX4_deliver_121 2 rfl rfl ?_
          rcases hq_19 : fX4_undo r_16.2 b sg ((x1 - (1 : Int32)).toNatClampNeg) with _ | r_19
          · exact absurd hf (by rw [fX4_deliver_s, if_neg qc_1, if_pos qc_2, if_pos qg_4, wl_eq hw_6, if_pos qg_7, if_neg qc_9, wl_eq hw_10, if_pos qg_11, if_pos qg_12, wl_eq hw_13, if_pos qg_14, wl_eq hw_15, hq_16, Option.bind_some, if_pos qc_17, hq_19, Option.bind_none]; exact nofun)
          refine x_ret (rest := []) (st2 := []) (pc2 := 126) (cu2 := 0) (su2 := 0) (x_cV C (by assumption) (Nat.le_of_ble_eq_true rfl) kmX4_undo rfl kk_4_172 (tX4_undo hok (by assumption) (by assumption) (by assumption) (by assumption)  hq_19) rfl rfl (Nat.le_of_ble_eq_true rfl) ⟨Nat.le_of_ble_eq_true rfl, Nat.le_of_ble_eq_true rfl⟩ ⟨Nat.le_of_ble_eq_true rfl, Nat.le_of_ble_eq_true rfl⟩ dX4_deliver_123) rfl rfl rfl rfl ?_
          refine x_iload (pc2 := 128) C dX4_deliver_126 0 rfl rfl ?_
          rcases (Decidable.em (r_16.1 = 0 ∨ r_16.1 = 1)).symm with qg_20 | qg_20
          · exact absurd hf (by rw [fX4_deliver_s, if_neg qc_1, if_pos qc_2, if_pos qg_4, wl_eq hw_6, if_pos qg_7, if_neg qc_9, wl_eq hw_10, if_pos qg_11, if_pos qg_12, wl_eq hw_13, if_pos qg_14, wl_eq hw_15, hq_16, Option.bind_some, if_pos qc_17, hq_19, Option.bind_some, if_neg qg_20]; exact nofun)
          rw [fX4_deliver_s, if_neg qc_1, if_pos qc_2, if_pos qg_4, wl_eq hw_6, if_pos qg_7, if_neg qc_9, wl_eq hw_10, if_pos qg_11, if_pos qg_12, wl_eq hw_13, if_pos qg_14, wl_eq hw_15, hq_16, Option.bind_some, if_pos qc_17, hq_19, Option.bind_some, if_pos qg_20] at hf
          cases hf
          exact x_zreturn C dX4_deliver_128 rfl qg_20 (Nat.le_of_ble_eq_true rfl) (Nat.le_of_ble_eq_true rfl) rfl rfl
      · refine x_aload_n (pc2 := 48) C dX4_deliver_47 2 rfl rfl rfl ?_
        rcases (Decidable.em (xR Ω_6 404 0 = sg)).symm with qg_21 | qg_21
        · exact absurd hf (by rw [fX4_deliver_s, if_neg qc_1, if_pos qc_2, if_pos qg_4, wl_eq hw_6, if_pos qg_7, if_pos qc_9, if_neg qg_21]; exact nofun)
        refine x_getM (pc2 := 51) (f := 404) (k2 := 6) (v9 := sg) C (by assumption) kf_4_33 dX4_deliver_48 rfl rfl rfl qg_21 rfl ?_
        refine x_iload_n (pc2 := 52) C dX4_deliver_51 4 rfl rfl rfl ?_
        refine x_iload_n (pc2 := 53) C dX4_deliver_52 5 rfl rfl rfl ?_
        refine x_iload (pc2 := 55) C dX4_deliver_53 6 rfl rfl ?_
        refine x_ret (rest := []) (st2 := []) (pc2 := 58) (cu2 := 0) (su2 := 0) (x_cV C (by assumption) (Nat.le_of_ble_eq_true rfl) kmX6_move rfl kk_4_139 (tX6_move hok (by assumption)) rfl rfl (Nat.le_of_ble_eq_true rfl) ⟨Nat.le_of_ble_eq_true rfl, Nat.le_of_ble_eq_true rfl⟩ ⟨Nat.le_of_ble_eq_true rfl, Nat.le_of_ble_eq_true rfl⟩ dX4_deliver_55) rfl rfl rfl rfl ?_
        obtain ⟨Ω_22, hw_22⟩ : ∃ z, z = fX6_move Ω_6 sg x2 x3 x4 := ⟨_, rfl⟩
        refine x_om hw_22 ?_
        refine x_iconst (pc2 := 59) (v := 1) C dX4_deliver_58 rfl rfl ?_
        rw [fX4_deliver_s, if_neg qc_1, if_pos qc_2, if_pos qg_4, wl_eq hw_6, if_pos qg_7, if_pos qc_9, if_pos qg_21, wl_eq hw_22] at hf
        cases hf
        exact x_zreturn C dX4_deliver_59 rfl (by first | exact Or.inl rfl | exact Or.inr rfl) (Nat.le_of_ble_eq_true rfl) (Nat.le_of_ble_eq_true rfl) rfl rfl
    · refine x_iconst (pc2 := 11) (v := 0) C dX4_deliver_10 rfl rfl ?_
      rw [fX4_deliver_s, if_neg qc_1, if_neg qc_2] at hf
      cases hf
      exact x_zreturn C dX4_deliver_11 rfl (by first | exact Or.inl rfl | exact Or.inr rfl) (Nat.le_of_ble_eq_true rfl) (Nat.le_of_ble_eq_true rfl) rfl rfl
theorem tX4_dl_3 {G : XG} (hok : XK G) (hd0 : dm G 4 0) {b sg : Nat} (db : dm G 0 b) (ds : dm G 6 sg) {Ω : XO} {x1 x2 x3 x4 x5 x6 : Int32} {r : Int32 × XO} (hf : fX4_deliver b sg 3 Ω x1 x2 x3 x4 x5 x6 = some r) : XM G yX4_deliver cX4_deliver 10 ((some FieldType.boolean)) (RM 10 0) [.ref (ad G 4 0), .int x1, .int x2, .int x3, .int x4, .int x5, .int x6] Ω (.inl (some (.int r.1))) r.2 :=
  tX4_deliver_s_2 hok hd0 db ds (fun h9 => tX4_dl_2 hok hd0 db ds h9) hf
set_option maxRecDepth 20000 in
theorem tX4_callFrom_3 {G : XG} (hok : XK G) {b : Nat} {sg : Nat} {dl : XO → Int32 → Int32 → Int32 → Int32 → Int32 → Int32 → Option (Int32 × XO)} {x1 : Int32} {i2 : Nat} {Ω : XO} (hd0 : dm G 4 0) (hd2 : dm G 3 i2) (db : dm G 0 b) (ds : dm G 6 sg) (hdl : ∀ {Ω : XO} {x1 x2 x3 x4 x5 x6 : Int32} {r : Int32 × XO}, dl Ω x1 x2 x3 x4 x5 x6 = some r → XM G yX4_deliver cX4_deliver 10 ((some FieldType.boolean)) (RM 10 0) [.ref (ad G 4 0), .int x1, .int x2, .int x3, .int x4, .int x5, .int x6] Ω (.inl (some (.int r.1))) r.2) {r : XO} (hf : fX4_callFrom Ω b sg dl x1 i2 = some r) : XM G yX4_callFrom cX4_callFrom 8 none (RM 11 0) [.ref (ad G 4 0), .int x1, .ref (ad G 3 i2)] Ω (.inl none) (r) := by
  refine x_start (lv := [(0, .ref (ad G 4 0)), (1, .int x1), (2, .ref (ad G 3 i2))]) (own := RX4) hok (by decide +kernel) rfl (Nat.le_of_ble_eq_true rfl) rfl (fun B C => ?_)
  refine x_aload_n (pc2 := 1) C dX4_callFrom_0 2 rfl rfl rfl ?_
  refine x_ret (rest := []) (st2 := [_]) (pc2 := 4) (cu2 := 0) (su2 := 0) (x_cV C (by assumption) (Nat.le_of_ble_eq_true rfl) kmX3_take rfl kk_4_249 (tX3_take hok (by assumption)) rfl rfl (Nat.le_of_ble_eq_true rfl) ⟨Nat.le_of_ble_eq_true rfl, Nat.le_of_ble_eq_true rfl⟩ ⟨Nat.le_of_ble_eq_true rfl, Nat.le_of_ble_eq_true rfl⟩ dX4_callFrom_1) rfl rfl rfl rfl ?_
  obtain ⟨Ω_1, hw_1⟩ : ∃ z, z = (fX3_take Ω i2).2 := ⟨_, rfl⟩
  refine x_om hw_1 ?_
  refine x_istore_n (pc2 := 5) (lv2 := [(3, _), (0, _), (1, _), (2, _)]) C dX4_callFrom_4 rfl (by decide) rfl rfl ?_
  refine x_aload_n (pc2 := 6) C dX4_callFrom_5 3 rfl rfl rfl ?_
  refine x_ret (rest := []) (st2 := [_]) (pc2 := 9) (cu2 := 0) (su2 := 0) (x_cV C (by assumption) (Nat.le_of_ble_eq_true rfl) kmX3_take rfl kk_4_249 (tX3_take hok (by assumption)) rfl rfl (Nat.le_of_ble_eq_true rfl) ⟨Nat.le_of_ble_eq_true rfl, Nat.le_of_ble_eq_true rfl⟩ ⟨Nat.le_of_ble_eq_true rfl, Nat.le_of_ble_eq_true rfl⟩ dX4_callFrom_6) rfl rfl rfl rfl ?_
  obtain ⟨Ω_2, hw_2⟩ : ∃ z, z = (fX3_take Ω_1 i2).2 := ⟨_, rfl⟩
  refine x_om hw_2 ?_
  refine x_istore (pc2 := 11) (lv2 := [(4, _), (3, _), (0, _), (1, _), (2, _)]) C dX4_callFrom_9 (by decide) rfl rfl ?_
  refine x_aload_n (pc2 := 12) C dX4_callFrom_11 4 rfl rfl rfl ?_
  refine x_ret (rest := []) (st2 := [_]) (pc2 := 15) (cu2 := 0) (su2 := 0) (x_cV C (by assumption) (Nat.le_of_ble_eq_true rfl) kmX3_take rfl kk_4_249 (tX3_take hok (by assumption)) rfl rfl (Nat.le_of_ble_eq_true rfl) ⟨Nat.le_of_ble_eq_true rfl, Nat.le_of_ble_eq_true rfl⟩ ⟨Nat.le_of_ble_eq_true rfl, Nat.le_of_ble_eq_true rfl⟩ dX4_callFrom_12) rfl rfl rfl rfl ?_
  obtain ⟨Ω_3, hw_3⟩ : ∃ z, z = (fX3_take Ω_2 i2).2 := ⟨_, rfl⟩
  refine x_om hw_3 ?_
  refine x_bipush (pc2 := 17) (v := 16) C dX4_callFrom_15 rfl rfl ?_
  refine x_irem (pc2 := 18) C dX4_callFrom_17 (by decide +kernel) rfl ?_
  refine x_istore (pc2 := 20) (lv2 := [(5, _), (4, _), (3, _), (0, _), (1, _), (2, _)]) C dX4_callFrom_18 (by decide) rfl rfl ?_
  refine x_iload_n (pc2 := 21) C dX4_callFrom_20 4 rfl rfl rfl ?_
  refine x_iconst (pc2 := 22) (v := 1) C dX4_callFrom_21 rfl rfl ?_
  refine x_icmp_lt (tgt := 49) (pc2 := 25) C dX4_callFrom_22 (by decide) rfl (fun qc_4 => ?_) (fun qc_4 => ?_)
  · refine x_aload_n (pc2 := 50) C dX4_callFrom_49 5 rfl rfl rfl ?_
    refine x_iconst (pc2 := 51) (v := 0) C dX4_callFrom_50 rfl rfl ?_
    refine x_ret (rest := []) (st2 := []) (pc2 := 54) (cu2 := 0) (su2 := 0) (x_cV C (by assumption) (Nat.le_of_ble_eq_true rfl) kmX3_push rfl kk_4_255 (tX3_push hok (by assumption)) rfl rfl (Nat.le_of_ble_eq_true rfl) ⟨Nat.le_of_ble_eq_true rfl, Nat.le_of_ble_eq_true rfl⟩ ⟨Nat.le_of_ble_eq_true rfl, Nat.le_of_ble_eq_true rfl⟩ dX4_callFrom_51) rfl rfl rfl rfl ?_
    obtain ⟨Ω_5, hw_5⟩ : ∃ z, z = fX3_push Ω_3 i2 (0 : Int32) := ⟨_, rfl⟩
    refine x_om hw_5 ?_
    rw [fX4_callFrom, wl_eq hw_1, wl_eq hw_2, wl_eq hw_3, if_pos qc_4, wl_eq hw_5] at hf
    cases hf
    exact x_vreturn C dX4_callFrom_54 rfl (Nat.le_of_ble_eq_true rfl) (Nat.le_of_ble_eq_true rfl) rfl rfl
  · refine x_iload_n (pc2 := 26) C dX4_callFrom_25 4 rfl rfl rfl ?_
    refine x_iconst (pc2 := 27) (v := 4) C dX4_callFrom_26 rfl rfl ?_
    refine x_icmp_ge (tgt := 49) (pc2 := 30) C dX4_callFrom_27 (by decide) rfl (fun qc_6 => ?_) (fun qc_6 => ?_)
    · refine x_aload_n (pc2 := 50) C dX4_callFrom_49 5 rfl rfl rfl ?_
      refine x_iconst (pc2 := 51) (v := 0) C dX4_callFrom_50 rfl rfl ?_
      refine x_ret (rest := []) (st2 := []) (pc2 := 54) (cu2 := 0) (su2 := 0) (x_cV C (by assumption) (Nat.le_of_ble_eq_true rfl) kmX3_push rfl kk_4_255 (tX3_push hok (by assumption)) rfl rfl (Nat.le_of_ble_eq_true rfl) ⟨Nat.le_of_ble_eq_true rfl, Nat.le_of_ble_eq_true rfl⟩ ⟨Nat.le_of_ble_eq_true rfl, Nat.le_of_ble_eq_true rfl⟩ dX4_callFrom_51) rfl rfl rfl rfl ?_
      obtain ⟨Ω_7, hw_7⟩ : ∃ z, z = fX3_push Ω_3 i2 (0 : Int32) := ⟨_, rfl⟩
      refine x_om hw_7 ?_
      rw [fX4_callFrom, wl_eq hw_1, wl_eq hw_2, wl_eq hw_3, if_neg qc_4, if_pos qc_6, wl_eq hw_7] at hf
      cases hf
      exact x_vreturn C dX4_callFrom_54 rfl (Nat.le_of_ble_eq_true rfl) (Nat.le_of_ble_eq_true rfl) rfl rfl
    · refine x_aload_n (pc2 := 31) C dX4_callFrom_30 3 rfl rfl rfl ?_
      rcases (Decidable.em (xR Ω_3 404 0 = sg)).symm with qg_8 | qg_8
      · exact absurd hf (by rw [fX4_callFrom, wl_eq hw_1, wl_eq hw_2, wl_eq hw_3, if_neg qc_4, if_neg qc_6, if_neg qg_8]; exact nofun)
      refine x_getM (pc2 := 34) (f := 404) (k2 := 6) (v9 := sg) C (by assumption) kf_4_33 dX4_callFrom_31 rfl rfl rfl qg_8 rfl ?_
      refine x_getR (f := 600) (k2 := 2011) (pc2 := 37) C (by assumption) kf_4_125 dX4_callFrom_34 rfl rfl rfl (rti_i rfl) rfl (fun qd_9 => ?_)
      refine x_aload_n (pc2 := 38) C dX4_callFrom_37 5 rfl rfl rfl ?_
      refine x_getI (pc2 := 41) (f := 304) C (by assumption) kf_4_242 dX4_callFrom_38 rfl rfl rfl ?_
      refine x_ret (rest := []) (st2 := [_]) (pc2 := 44) (cu2 := 0) (su2 := 0) (x_cSN C kmX10_at ke_4_129 (tX10_at hok (by assumption) rfl (by decide)) rfl rfl (Nat.le_of_ble_eq_true rfl) ⟨Nat.le_of_ble_eq_true rfl, Nat.le_of_ble_eq_true rfl⟩ ⟨Nat.le_of_ble_eq_true rfl, Nat.le_of_ble_eq_true rfl⟩ dX4_callFrom_41) rfl rfl rfl rfl ?_
      refine x_iload (pc2 := 46) C dX4_callFrom_44 1 rfl rfl ?_
      refine x_icmp_ge (tgt := 55) (pc2 := 49) C dX4_callFrom_46 (by decide) rfl (fun qc_10 => ?_) (fun qc_10 => ?_)
      · refine x_aload_n (pc2 := 56) C dX4_callFrom_55 5 rfl rfl rfl ?_
        refine x_getI (pc2 := 59) (f := 310) C (by assumption) kf_4_70 dX4_callFrom_56 rfl rfl rfl ?_
        refine x_aload_n (pc2 := 60) C dX4_callFrom_59 5 rfl rfl rfl ?_
        refine x_getI (pc2 := 63) (f := 310) C (by assumption) kf_4_70 dX4_callFrom_60 rfl rfl rfl ?_
        refine x_iconst (pc2 := 64) (v := 4) C dX4_callFrom_63 rfl rfl ?_
        refine x_idiv (pc2 := 65) C dX4_callFrom_64 (by decide +kernel) rfl ?_
        refine x_isub (pc2 := 66) C dX4_callFrom_65 rfl ?_
        refine x_istore (pc2 := 68) (lv2 := [(6, _), (5, _), (4, _), (3, _), (0, _), (1, _), (2, _)]) C dX4_callFrom_66 (by decide) rfl rfl ?_
        refine x_aload_n (pc2 := 69) C dX4_callFrom_68 4 rfl rfl rfl ?_
        refine x_iload_n (pc2 := 70) C dX4_callFrom_69 5 rfl rfl rfl ?_
        refine x_iconst (pc2 := 71) (v := 1) C dX4_callFrom_70 rfl rfl ?_
        refine x_iadd (pc2 := 72) C dX4_callFrom_71 rfl ?_
        refine x_aload_n (pc2 := 73) C dX4_callFrom_72 6 rfl rfl rfl ?_
        refine x_getI (pc2 := 76) (f := 304) C (by assumption) kf_4_242 dX4_callFrom_73 rfl rfl rfl ?_
        refine x_iload (pc2 := 78) C dX4_callFrom_76 1 rfl rfl ?_
        refine x_iload (pc2 := 80) C dX4_callFrom_78 2 rfl rfl ?_
        refine x_iload_n (pc2 := 81) C dX4_callFrom_80 3 rfl rfl rfl ?_
        refine x_iload (pc2 := 83) C dX4_callFrom_81 0 rfl rfl ?_
        rcases hq_11 : dl Ω_3 (x1 + (1 : Int32)) (xI Ω_3 304 i2 0) (((fX3_take Ω_2 i2).1) - ((fX3_take Ω_2 i2).1) / (16 : Int32) * (16 : Int32)) ((fX3_take Ω_1 i2).1) ((fX3_take Ω i2).1) ((xI Ω_3 310 i2 0) - ((xI Ω_3 310 i2 0) / (4 : Int32))) with _ | r_11
        · exact absurd hf (by rw [fX4_callFrom, wl_eq hw_1, wl_eq hw_2, wl_eq hw_3, if_neg qc_4, if_neg qc_6, if_pos qg_8, if_pos qc_10, hq_11, Option.bind_none]; exact nofun)
        refine x_ret (rest := []) (st2 := [_]) (pc2 := 86) (cu2 := 0) (su2 := 0) (x_cV C (by assumption) (Nat.le_of_ble_eq_true rfl) kmX4_deliver rfl kk_4_98 (hdl hq_11) rfl rfl (Nat.le_of_ble_eq_true rfl) ⟨Nat.le_of_ble_eq_true rfl, Nat.le_of_ble_eq_true rfl⟩ ⟨Nat.le_of_ble_eq_true rfl, Nat.le_of_ble_eq_true rfl⟩ dX4_callFrom_83) rfl rfl rfl rfl ?_
        refine x_istore (pc2 := 88) (lv2 := [(7, _), (6, _), (5, _), (4, _), (3, _), (0, _), (1, _), (2, _)]) C dX4_callFrom_86 (by decide) rfl rfl ?_
        refine x_aload_n (pc2 := 89) C dX4_callFrom_88 7 rfl rfl rfl ?_
        refine x_dup (pc2 := 90) C dX4_callFrom_89 rfl rfl ?_
        refine x_getI (pc2 := 93) (f := 310) C (by assumption) kf_4_70 dX4_callFrom_90 rfl rfl rfl ?_
        refine x_aload_n (pc2 := 94) C dX4_callFrom_93 5 rfl rfl rfl ?_
        refine x_getR (f := 401) (k2 := 2007) (pc2 := 97) C (by assumption) kf_4_11 dX4_callFrom_94 rfl rfl rfl (rti_i rfl) rfl (fun qd_12 => ?_)
        refine x_iload_n (pc2 := 98) C dX4_callFrom_97 6 rfl rfl rfl ?_
        rcases (Decidable.em (inB x1 4)).symm with qg_13 | qg_13
        · exact absurd hf (by rw [fX4_callFrom, wl_eq hw_1, wl_eq hw_2, wl_eq hw_3, if_neg qc_4, if_neg qc_6, if_pos qg_8, if_pos qc_10, hq_11, Option.bind_some, if_neg qg_13]; exact nofun)
        refine x_aald (k2 := 3) (pc2 := 99) C (by assumption) dX4_callFrom_98 rfl rfl (inB_in qg_13) rfl (eli_2007 _ _) rfl (fun qd_14 => ?_)
        refine x_getI (pc2 := 102) (f := 310) C (by assumption) kf_4_70 dX4_callFrom_99 rfl rfl rfl ?_
        refine x_iload (pc2 := 104) C dX4_callFrom_102 1 rfl rfl ?_
        refine x_isub (pc2 := 105) C dX4_callFrom_104 rfl ?_
        refine x_iadd (pc2 := 106) C dX4_callFrom_105 rfl ?_
        refine x_putI (pc2 := 109) (f := 310) C (by assumption) kf_4_70 dX4_callFrom_106 rfl rfl rfl rfl rfl ?_
        obtain ⟨Ω_15, hw_15⟩ : ∃ z, z = uI r_11.2 310 i2 0 ((xI r_11.2 310 i2 0) + ((xI r_11.2 310 x1.toNatClampNeg 0) - ((xI Ω_3 310 i2 0) - ((xI Ω_3 310 i2 0) / (4 : Int32))))) := ⟨_, rfl⟩
        refine x_om hw_15 ?_
        refine x_aload_n (pc2 := 110) C dX4_callFrom_109 7 rfl rfl rfl ?_
        refine x_iload (pc2 := 112) C dX4_callFrom_110 0 rfl rfl ?_
        refine x_if_eq (tgt := 119) (pc2 := 115) C dX4_callFrom_112 (by decide) rfl (fun qc_16 => ?_) (fun qc_16 => ?_)
        · refine x_iconst (pc2 := 120) (v := 0) C dX4_callFrom_119 rfl rfl ?_
          refine x_ret (rest := []) (st2 := []) (pc2 := 123) (cu2 := 0) (su2 := 0) (x_cV C (by assumption) (Nat.le_of_ble_eq_true rfl) kmX3_push rfl kk_4_255 (tX3_push hok (by assumption)) rfl rfl (Nat.le_of_ble_eq_true rfl) ⟨Nat.le_of_ble_eq_true rfl, Nat.le_of_ble_eq_true rfl⟩ ⟨Nat.le_of_ble_eq_true rfl, Nat.le_of_ble_eq_true rfl⟩ dX4_callFrom_120) rfl rfl rfl rfl ?_
          obtain ⟨Ω_17, hw_17⟩ : ∃ z, z = fX3_push Ω_15 i2 (0 : Int32) := ⟨_, rfl⟩
          refine x_om hw_17 ?_
          rw [fX4_callFrom, wl_eq hw_1, wl_eq hw_2, wl_eq hw_3, if_neg qc_4, if_neg qc_6, if_pos qg_8, if_pos qc_10, hq_11, Option.bind_some, if_pos qg_13, wl_eq hw_15, if_pos qc_16, wl_eq hw_17] at hf
          cases hf
          exact x_vreturn C dX4_callFrom_123 rfl (Nat.le_of_ble_eq_true rfl) (Nat.le_of_ble_eq_true rfl) rfl rfl
        · refine x_iconst (pc2 := 116) (v := 1) C dX4_callFrom_115 rfl rfl ?_
          refine x_goto (tgt := 120) C dX4_callFrom_116 (by decide) ?_
          refine x_ret (rest := []) (st2 := []) (pc2 := 123) (cu2 := 0) (su2 := 0) (x_cV C (by assumption) (Nat.le_of_ble_eq_true rfl) kmX3_push rfl kk_4_255 (tX3_push hok (by assumption)) rfl rfl (Nat.le_of_ble_eq_true rfl) ⟨Nat.le_of_ble_eq_true rfl, Nat.le_of_ble_eq_true rfl⟩ ⟨Nat.le_of_ble_eq_true rfl, Nat.le_of_ble_eq_true rfl⟩ dX4_callFrom_120) rfl rfl rfl rfl ?_
          obtain ⟨Ω_18, hw_18⟩ : ∃ z, z = fX3_push Ω_15 i2 (1 : Int32) := ⟨_, rfl⟩
          refine x_om hw_18 ?_
          rw [fX4_callFrom, wl_eq hw_1, wl_eq hw_2, wl_eq hw_3, if_neg qc_4, if_neg qc_6, if_pos qg_8, if_pos qc_10, hq_11, Option.bind_some, if_pos qg_13, wl_eq hw_15, if_neg qc_16, wl_eq hw_18] at hf
          cases hf
          exact x_vreturn C dX4_callFrom_123 rfl (Nat.le_of_ble_eq_true rfl) (Nat.le_of_ble_eq_true rfl) rfl rfl
      · refine x_aload_n (pc2 := 50) C dX4_callFrom_49 5 rfl rfl rfl ?_
        refine x_iconst (pc2 := 51) (v := 0) C dX4_callFrom_50 rfl rfl ?_
        refine x_ret (rest := []) (st2 := []) (pc2 := 54) (cu2 := 0) (su2 := 0) (x_cV C (by assumption) (Nat.le_of_ble_eq_true rfl) kmX3_push rfl kk_4_255 (tX3_push hok (by assumption)) rfl rfl (Nat.le_of_ble_eq_true rfl) ⟨Nat.le_of_ble_eq_true rfl, Nat.le_of_ble_eq_true rfl⟩ ⟨Nat.le_of_ble_eq_true rfl, Nat.le_of_ble_eq_true rfl⟩ dX4_callFrom_51) rfl rfl rfl rfl ?_
        obtain ⟨Ω_19, hw_19⟩ : ∃ z, z = fX3_push Ω_3 i2 (0 : Int32) := ⟨_, rfl⟩
        refine x_om hw_19 ?_
        rw [fX4_callFrom, wl_eq hw_1, wl_eq hw_2, wl_eq hw_3, if_neg qc_4, if_neg qc_6, if_pos qg_8, if_neg qc_10, wl_eq hw_19] at hf
        cases hf
        exact x_vreturn C dX4_callFrom_54 rfl (Nat.le_of_ble_eq_true rfl) (Nat.le_of_ble_eq_true rfl) rfl rfl
set_option maxRecDepth 20000 in
theorem lX4_runProgram_l2_3 {G : XG} (hok : XK G) {B : XB} {b : Nat} {sg : Nat} {dl : XO → Int32 → Int32 → Int32 → Int32 → Int32 → Int32 → Option (Int32 × XO)} {y1 : Int32} {y2 : Nat}  (hf0 : dm G 4 0) (hf2 : dm G 3 y2) (db : dm G 0 b) (ds : dm G 6 sg) (hdl : ∀ {Ω : XO} {x1 x2 x3 x4 x5 x6 : Int32} {r : Int32 × XO}, dl Ω x1 x2 x3 x4 x5 x6 = some r → XM G yX4_deliver cX4_deliver 10 ((some FieldType.boolean)) (RM 10 0) [.ref (ad G 4 0), .int x1, .int x2, .int x3, .int x4, .int x5, .int x6] Ω (.inl (some (.int r.1))) r.2) {T : Option Value ⊕ String} {Ω9 : XO} (C : XC G B cX4_runProgram RX4 (RM 12 0) 7 ((some FieldType.boolean)) T Ω9) : ∀ (n : Nat) (y3 : Int32) (Ω : XO) {r : ((Int32 × XO) ⊕ (Int32 × XO))}, fX4_runProgram_l2 b sg dl y1 y2 n y3 Ω = some r → (∀ v, r = .inl v → T = (.inl (some (.int (v.1)))) ∧ Ω9 = v.2) → (∀ q, r = .inr q → (XW G B 7 202 [] [] q.2 0 0)) → XW G B 7 2 [(3, .int (y3)), (0, .ref (ad G 4 (0))), (1, .int (y1)), (2, .ref (ad G 3 (y2)))] [] Ω 0 0 := by
  intro n
  induction n with
  | zero => intro y3 Ω r hf; exact absurd hf (by rw [fX4_runProgram_l2]; exact nofun)
  | succ n ih =>
    intro y3 Ω r hf hk hk2
    refine x_iload_n (pc2 := 3) C dX4_runProgram_2 0 rfl rfl rfl ?_
    refine x_ldc (pc2 := 5) C kc_4_189 dX4_runProgram_3 rfl ?_
    refine x_icmp_ge (tgt := 202) (pc2 := 8) C dX4_runProgram_5 (by decide) rfl (fun qc_1 => ?_) (fun qc_1 => ?_)
    · rw [fX4_runProgram_l2, if_pos qc_1] at hf
      exact x_sub (lv2 := []) C [] rfl (hk2 _ (Option.some.inj hf).symm)
    · refine x_aload_n (pc2 := 9) C dX4_runProgram_8 3 rfl rfl rfl ?_
      refine x_getI (pc2 := 12) (f := 309) C (by assumption) kf_4_190 dX4_runProgram_9 rfl rfl rfl ?_
      refine x_aload_n (pc2 := 13) C dX4_runProgram_12 1 rfl rfl rfl ?_
      refine x_getR (f := 400) (k2 := 5) (pc2 := 16) C (by assumption) kf_4_34 dX4_runProgram_13 rfl rfl rfl (rti_i rfl) rfl (fun qd_2 => ?_)
      refine x_aload_n (pc2 := 17) C dX4_runProgram_16 3 rfl rfl rfl ?_
      refine x_getI (pc2 := 20) (f := 308) C (by assumption) kf_4_193 dX4_runProgram_17 rfl rfl rfl ?_
      refine x_ret (rest := [_]) (st2 := [_, _]) (pc2 := 23) (cu2 := 0) (su2 := 0) (x_cV C (by assumption) (Nat.le_of_ble_eq_true rfl) kmX5_lengthOf rfl kk_4_196 (tX5_lengthOf hok (by assumption)) rfl rfl (Nat.le_of_ble_eq_true rfl) ⟨Nat.le_of_ble_eq_true rfl, Nat.le_of_ble_eq_true rfl⟩ ⟨Nat.le_of_ble_eq_true rfl, Nat.le_of_ble_eq_true rfl⟩ dX4_runProgram_20) rfl rfl rfl rfl ?_
      refine x_icmp_lt (tgt := 28) (pc2 := 26) C dX4_runProgram_23 (by decide) rfl (fun qc_3 => ?_) (fun qc_3 => ?_)
      · refine x_aload_n (pc2 := 29) C dX4_runProgram_28 1 rfl rfl rfl ?_
        refine x_getR (f := 400) (k2 := 5) (pc2 := 32) C (by assumption) kf_4_34 dX4_runProgram_29 rfl rfl rfl (rti_i rfl) rfl (fun qd_4 => ?_)
        refine x_aload_n (pc2 := 33) C dX4_runProgram_32 3 rfl rfl rfl ?_
        refine x_getI (pc2 := 36) (f := 308) C (by assumption) kf_4_193 dX4_runProgram_33 rfl rfl rfl ?_
        refine x_aload_n (pc2 := 37) C dX4_runProgram_36 3 rfl rfl rfl ?_
        refine x_getI (pc2 := 40) (f := 309) C (by assumption) kf_4_190 dX4_runProgram_37 rfl rfl rfl ?_
        refine x_ret (rest := []) (st2 := [_]) (pc2 := 43) (cu2 := 0) (su2 := 0) (x_cV C (by assumption) (Nat.le_of_ble_eq_true rfl) kmX5_operationAt rfl kk_4_201 (tX5_operationAt hok (by assumption)) rfl rfl (Nat.le_of_ble_eq_true rfl) ⟨Nat.le_of_ble_eq_true rfl, Nat.le_of_ble_eq_true rfl⟩ ⟨Nat.le_of_ble_eq_true rfl, Nat.le_of_ble_eq_true rfl⟩ dX4_runProgram_40) rfl rfl rfl rfl ?_
        refine x_istore (pc2 := 45) (lv2 := [(4, _), (3, _), (0, _), (1, _), (2, _)]) C dX4_runProgram_43 (by decide) rfl rfl ?_
        refine x_aload_n (pc2 := 46) C dX4_runProgram_45 2 rfl rfl rfl ?_
        refine x_getR (f := 400) (k2 := 5) (pc2 := 49) C (by assumption) kf_4_34 dX4_runProgram_46 rfl rfl rfl (rti_i rfl) rfl (fun qd_5 => ?_)
        refine x_aload_n (pc2 := 50) C dX4_runProgram_49 4 rfl rfl rfl ?_
        refine x_getI (pc2 := 53) (f := 308) C (by assumption) kf_4_193 dX4_runProgram_50 rfl rfl rfl ?_
        refine x_aload_n (pc2 := 54) C dX4_runProgram_53 4 rfl rfl rfl ?_
        refine x_getI (pc2 := 57) (f := 309) C (by assumption) kf_4_190 dX4_runProgram_54 rfl rfl rfl ?_
        refine x_ret (rest := []) (st2 := [_]) (pc2 := 60) (cu2 := 0) (su2 := 0) (x_cV C (by assumption) (Nat.le_of_ble_eq_true rfl) kmX5_argumentAt rfl kk_4_204 (tX5_argumentAt hok (by assumption)) rfl rfl (Nat.le_of_ble_eq_true rfl) ⟨Nat.le_of_ble_eq_true rfl, Nat.le_of_ble_eq_true rfl⟩ ⟨Nat.le_of_ble_eq_true rfl, Nat.le_of_ble_eq_true rfl⟩ dX4_runProgram_57) rfl rfl rfl rfl ?_
        refine x_istore (pc2 := 62) (lv2 := [(5, _), (4, _), (3, _), (0, _), (1, _), (2, _)]) C dX4_runProgram_60 (by decide) rfl rfl ?_
        refine x_getsN (pc2 := 65) (q := 1) C (by decide) kg_4_207 dX4_runProgram_62 rfl ?_
        refine x_iload (pc2 := 67) C dX4_runProgram_65 1 rfl rfl ?_
        refine x_ret (rest := []) (st2 := [_]) (pc2 := 70) (cu2 := 0) (su2 := 0) (x_cSN C kmX10_at ke_4_129 (tX10_at_s hok (by decide)) rfl rfl (Nat.le_of_ble_eq_true rfl) ⟨Nat.le_of_ble_eq_true rfl, Nat.le_of_ble_eq_true rfl⟩ ⟨Nat.le_of_ble_eq_true rfl, Nat.le_of_ble_eq_true rfl⟩ dX4_runProgram_67) rfl rfl rfl rfl ?_
        refine x_aload_n (pc2 := 71) C dX4_runProgram_70 3 rfl rfl rfl ?_
        refine x_aload_n (pc2 := 72) C dX4_runProgram_71 5 rfl rfl rfl ?_
        refine x_iload (pc2 := 74) C dX4_runProgram_72 1 rfl rfl ?_
        refine x_iload (pc2 := 76) C dX4_runProgram_74 0 rfl rfl ?_
        rcases hq_6 : fX4_extraGas Ω b sg y2 (fX5_operationAt Ω 0 (xI Ω 308 y2 0) (xI Ω 309 y2 0)) (fX5_argumentAt Ω 0 (xI Ω 308 y2 0) (xI Ω 309 y2 0)) with _ | r_6
        · exact absurd hf (by rw [fX4_runProgram_l2, if_neg qc_1, if_pos qc_3, hq_6, Option.bind_none]; exact nofun)
        refine x_ret (rest := [_]) (st2 := [_, _]) (pc2 := 79) (cu2 := 0) (su2 := 0) (x_cV C (by assumption) (Nat.le_of_ble_eq_true rfl) kmX4_extraGas rfl kk_4_210 (tX4_extraGas hok (by assumption) (by assumption) (by assumption) (by assumption)  hq_6) rfl rfl (Nat.le_of_ble_eq_true rfl) ⟨Nat.le_of_ble_eq_true rfl, Nat.le_of_ble_eq_true rfl⟩ ⟨Nat.le_of_ble_eq_true rfl, Nat.le_of_ble_eq_true rfl⟩ dX4_runProgram_76) rfl rfl rfl rfl ?_
        refine x_iadd (pc2 := 80) C dX4_runProgram_79 rfl ?_
        refine x_istore (pc2 := 82) (lv2 := [(6, _), (5, _), (4, _), (3, _), (0, _), (1, _), (2, _)]) C dX4_runProgram_80 (by decide) rfl rfl ?_
        refine x_aload_n (pc2 := 83) C dX4_runProgram_82 6 rfl rfl rfl ?_
        refine x_iload (pc2 := 85) C dX4_runProgram_83 2 rfl rfl ?_
        refine x_ret (rest := []) (st2 := [_]) (pc2 := 88) (cu2 := 0) (su2 := 0) (x_cV C (by assumption) (Nat.le_of_ble_eq_true rfl) kmX3_heapAllows rfl kk_4_214 (tX3_heapAllows hok (by assumption)) rfl rfl (Nat.le_of_ble_eq_true rfl) ⟨Nat.le_of_ble_eq_true rfl, Nat.le_of_ble_eq_true rfl⟩ ⟨Nat.le_of_ble_eq_true rfl, Nat.le_of_ble_eq_true rfl⟩ dX4_runProgram_85) rfl rfl rfl rfl ?_
        refine x_if_eq (tgt := 100) (pc2 := 91) C dX4_runProgram_88 (by decide) rfl (fun qc_7 => ?_) (fun qc_7 => ?_)
        · refine x_aload_n (pc2 := 101) C dX4_runProgram_100 6 rfl rfl rfl ?_
          refine x_iconst (pc2 := 102) (v := 0) C dX4_runProgram_101 rfl rfl ?_
          refine x_putI (pc2 := 105) (f := 310) C (by assumption) kf_4_70 dX4_runProgram_102 rfl rfl rfl rfl rfl ?_
          obtain ⟨Ω_8, hw_8⟩ : ∃ z, z = uI Ω 310 y2 0 (0 : Int32) := ⟨_, rfl⟩
          refine x_om hw_8 ?_
          refine x_iconst (pc2 := 106) (v := 0) C dX4_runProgram_105 rfl rfl ?_
          rw [fX4_runProgram_l2, if_neg qc_1, if_pos qc_3, hq_6, Option.bind_some, if_pos qc_7, wl_eq hw_8] at hf
          obtain ⟨hT9, hW9⟩ := hk _ (Option.some.inj hf).symm
          exact x_zreturn C dX4_runProgram_106 rfl (by first | exact Or.inl rfl | exact Or.inr rfl) (Nat.le_of_ble_eq_true rfl) (Nat.le_of_ble_eq_true rfl) hT9 hW9
        · refine x_iload (pc2 := 93) C dX4_runProgram_91 0 rfl rfl ?_
          refine x_aload_n (pc2 := 94) C dX4_runProgram_93 6 rfl rfl rfl ?_
          refine x_getI (pc2 := 97) (f := 310) C (by assumption) kf_4_70 dX4_runProgram_94 rfl rfl rfl ?_
          refine x_icmp_le (tgt := 107) (pc2 := 100) C dX4_runProgram_97 (by decide) rfl (fun qc_9 => ?_) (fun qc_9 => ?_)
          · refine x_aload_n (pc2 := 108) C dX4_runProgram_107 6 rfl rfl rfl ?_
            refine x_dup (pc2 := 109) C dX4_runProgram_108 rfl rfl ?_
            refine x_getI (pc2 := 112) (f := 310) C (by assumption) kf_4_70 dX4_runProgram_109 rfl rfl rfl ?_
            refine x_iload (pc2 := 114) C dX4_runProgram_112 0 rfl rfl ?_
            refine x_isub (pc2 := 115) C dX4_runProgram_114 rfl ?_
            refine x_putI (pc2 := 118) (f := 310) C (by assumption) kf_4_70 dX4_runProgram_115 rfl rfl rfl rfl rfl ?_
            obtain ⟨Ω_10, hw_10⟩ : ∃ z, z = uI Ω 310 y2 0 ((xI Ω 310 y2 0) - ((sTb 1 (fX5_operationAt Ω 0 (xI Ω 308 y2 0) (xI Ω 309 y2 0))) + r_6)) := ⟨_, rfl⟩
            refine x_om hw_10 ?_
            refine x_aload_n (pc2 := 119) C dX4_runProgram_118 6 rfl rfl rfl ?_
            refine x_dup (pc2 := 120) C dX4_runProgram_119 rfl rfl ?_
            refine x_getI (pc2 := 123) (f := 309) C (by assumption) kf_4_190 dX4_runProgram_120 rfl rfl rfl ?_
            refine x_iconst (pc2 := 124) (v := 1) C dX4_runProgram_123 rfl rfl ?_
            refine x_iadd (pc2 := 125) C dX4_runProgram_124 rfl ?_
            refine x_putI (pc2 := 128) (f := 309) C (by assumption) kf_4_190 dX4_runProgram_125 rfl rfl rfl rfl rfl ?_
            obtain ⟨Ω_11, hw_11⟩ : ∃ z, z = uI Ω_10 309 y2 0 ((xI Ω_10 309 y2 0) + (1 : Int32)) := ⟨_, rfl⟩
            refine x_om hw_11 ?_
            refine x_iload (pc2 := 130) C dX4_runProgram_128 2 rfl rfl ?_
            refine x_bipush (pc2 := 132) (v := 22) C dX4_runProgram_130 rfl rfl ?_
            refine x_icmp_lt (tgt := 143) (pc2 := 135) C dX4_runProgram_132 (by decide) rfl (fun qc_12 => ?_) (fun qc_12 => ?_)
            · refine x_iload (pc2 := 145) C dX4_runProgram_143 2 rfl rfl ?_
              refine x_bipush (pc2 := 147) (v := 19) C dX4_runProgram_145 rfl rfl ?_
              refine x_icmp_ne (tgt := 159) (pc2 := 150) C dX4_runProgram_147 (by decide) rfl (fun qc_13 => ?_) (fun qc_13 => ?_)
              · refine x_iload (pc2 := 161) C dX4_runProgram_159 2 rfl rfl ?_
                refine x_bipush (pc2 := 163) (v := 21) C dX4_runProgram_161 rfl rfl ?_
                refine x_icmp_ne (tgt := 176) (pc2 := 166) C dX4_runProgram_163 (by decide) rfl (fun qc_14 => ?_) (fun qc_14 => ?_)
                · refine x_aload_n (pc2 := 177) C dX4_runProgram_176 4 rfl rfl rfl ?_
                  refine x_aload_n (pc2 := 178) C dX4_runProgram_177 6 rfl rfl rfl ?_
                  refine x_iload (pc2 := 180) C dX4_runProgram_178 2 rfl rfl ?_
                  refine x_iload (pc2 := 182) C dX4_runProgram_180 1 rfl rfl ?_
                  rcases hq_15 : fX4_touchState Ω_11 b sg y2 (fX5_operationAt Ω 0 (xI Ω 308 y2 0) (xI Ω 309 y2 0)) (fX5_argumentAt Ω 0 (xI Ω 308 y2 0) (xI Ω 309 y2 0)) with _ | r_15
                  · exact absurd hf (by rw [fX4_runProgram_l2, if_neg qc_1, if_pos qc_3, hq_6, Option.bind_some, if_neg qc_7, if_pos qc_9, wl_eq hw_10, wl_eq hw_11, if_pos qc_12, if_neg qc_13, if_neg qc_14, hq_15, Option.bind_none]; exact nofun)
                  refine x_ret (rest := []) (st2 := [_]) (pc2 := 185) (cu2 := 0) (su2 := 0) (x_cV C (by assumption) (Nat.le_of_ble_eq_true rfl) kmX4_touchState rfl kk_4_229 (tX4_touchState hok (by assumption) (by assumption) (by assumption) (by assumption)  hq_15) rfl rfl (Nat.le_of_ble_eq_true rfl) ⟨Nat.le_of_ble_eq_true rfl, Nat.le_of_ble_eq_true rfl⟩ ⟨Nat.le_of_ble_eq_true rfl, Nat.le_of_ble_eq_true rfl⟩ dX4_runProgram_182) rfl rfl rfl rfl ?_
                  refine x_if_ne (tgt := 196) (pc2 := 188) C dX4_runProgram_185 (by decide) rfl (fun qc_16 => ?_) (fun qc_16 => ?_)
                  · refine x_iinc (pc2 := 199) (v := y3 + 1) (lv2 := [(3, _), (6, _), (5, _), (4, _), (0, _), (1, _), (2, _)]) C dX4_runProgram_196 3 rfl rfl (by decide) rfl rfl ?_
                    refine x_goto (tgt := 2) C dX4_runProgram_199 (by decide) ?_
                    exact x_sub (lv2 := [(3, _), (0, _), (1, _), (2, _)]) C [0, 4, 5, 6] rfl (ih (y3 + 1) r_15.2 (by rw [fX4_runProgram_l2, if_neg qc_1, if_pos qc_3, hq_6, Option.bind_some, if_neg qc_7, if_pos qc_9, wl_eq hw_10, wl_eq hw_11, if_pos qc_12, if_neg qc_13, if_neg qc_14, hq_15, Option.bind_some, if_neg qc_16] at hf; exact hf) hk hk2)
                  · refine x_aload_n (pc2 := 189) C dX4_runProgram_188 6 rfl rfl rfl ?_
                    refine x_iload (pc2 := 191) C dX4_runProgram_189 2 rfl rfl ?_
                    refine x_iload (pc2 := 193) C dX4_runProgram_191 1 rfl rfl ?_
                    refine x_ret (rest := []) (st2 := []) (pc2 := 196) (cu2 := 0) (su2 := 0) (x_cV C (by assumption) (Nat.le_of_ble_eq_true rfl) kmX3_perform rfl kk_4_233 (tX3_perform hok (by assumption)) rfl rfl (Nat.le_of_ble_eq_true rfl) ⟨Nat.le_of_ble_eq_true rfl, Nat.le_of_ble_eq_true rfl⟩ ⟨Nat.le_of_ble_eq_true rfl, Nat.le_of_ble_eq_true rfl⟩ dX4_runProgram_193) rfl rfl rfl rfl ?_
                    obtain ⟨Ω_17, hw_17⟩ : ∃ z, z = fX3_perform r_15.2 y2 (fX5_operationAt Ω 0 (xI Ω 308 y2 0) (xI Ω 309 y2 0)) (fX5_argumentAt Ω 0 (xI Ω 308 y2 0) (xI Ω 309 y2 0)) := ⟨_, rfl⟩
                    refine x_om hw_17 ?_
                    refine x_iinc (pc2 := 199) (v := y3 + 1) (lv2 := [(3, _), (6, _), (5, _), (4, _), (0, _), (1, _), (2, _)]) C dX4_runProgram_196 3 rfl rfl (by decide) rfl rfl ?_
                    refine x_goto (tgt := 2) C dX4_runProgram_199 (by decide) ?_
                    exact x_sub (lv2 := [(3, _), (0, _), (1, _), (2, _)]) C [0, 4, 5, 6] rfl (ih (y3 + 1) Ω_17 (by rw [fX4_runProgram_l2, if_neg qc_1, if_pos qc_3, hq_6, Option.bind_some, if_neg qc_7, if_pos qc_9, wl_eq hw_10, wl_eq hw_11, if_pos qc_12, if_neg qc_13, if_neg qc_14, hq_15, Option.bind_some, if_pos qc_16, wl_eq hw_17] at hf; exact hf) hk hk2)
                · refine x_aload_n (pc2 := 167) C dX4_runProgram_166 4 rfl rfl rfl ?_
                  refine x_aload_n (pc2 := 168) C dX4_runProgram_167 6 rfl rfl rfl ?_
                  refine x_iload (pc2 := 170) C dX4_runProgram_168 1 rfl rfl ?_
                  rcases hq_18 : fX4_makeFrom Ω_11 b sg y2 (fX5_argumentAt Ω 0 (xI Ω 308 y2 0) (xI Ω 309 y2 0)) with _ | r_18
                  · exact absurd hf (by rw [fX4_runProgram_l2, if_neg qc_1, if_pos qc_3, hq_6, Option.bind_some, if_neg qc_7, if_pos qc_9, wl_eq hw_10, wl_eq hw_11, if_pos qc_12, if_neg qc_13, if_pos qc_14, hq_18, Option.bind_none]; exact nofun)
                  refine x_ret (rest := []) (st2 := []) (pc2 := 173) (cu2 := 0) (su2 := 0) (x_cV C (by assumption) (Nat.le_of_ble_eq_true rfl) kmX4_makeFrom rfl kk_4_225 (tX4_makeFrom hok (by assumption) (by assumption) (by assumption) (by assumption)  hq_18) rfl rfl (Nat.le_of_ble_eq_true rfl) ⟨Nat.le_of_ble_eq_true rfl, Nat.le_of_ble_eq_true rfl⟩ ⟨Nat.le_of_ble_eq_true rfl, Nat.le_of_ble_eq_true rfl⟩ dX4_runProgram_170) rfl rfl rfl rfl ?_
                  refine x_goto (tgt := 196) C dX4_runProgram_173 (by decide) ?_
                  refine x_iinc (pc2 := 199) (v := y3 + 1) (lv2 := [(3, _), (6, _), (5, _), (4, _), (0, _), (1, _), (2, _)]) C dX4_runProgram_196 3 rfl rfl (by decide) rfl rfl ?_
                  refine x_goto (tgt := 2) C dX4_runProgram_199 (by decide) ?_
                  exact x_sub (lv2 := [(3, _), (0, _), (1, _), (2, _)]) C [0, 4, 5, 6] rfl (ih (y3 + 1) r_18 (by rw [fX4_runProgram_l2, if_neg qc_1, if_pos qc_3, hq_6, Option.bind_some, if_neg qc_7, if_pos qc_9, wl_eq hw_10, wl_eq hw_11, if_pos qc_12, if_neg qc_13, if_pos qc_14, hq_18, Option.bind_some] at hf; exact hf) hk hk2)
              · refine x_aload_n (pc2 := 151) C dX4_runProgram_150 4 rfl rfl rfl ?_
                refine x_iload_n (pc2 := 152) C dX4_runProgram_151 5 rfl rfl rfl ?_
                refine x_aload_n (pc2 := 153) C dX4_runProgram_152 6 rfl rfl rfl ?_
                rcases hq_19 : fX4_callFrom Ω_11 b sg dl y1 y2 with _ | r_19
                · exact absurd hf (by rw [fX4_runProgram_l2, if_neg qc_1, if_pos qc_3, hq_6, Option.bind_some, if_neg qc_7, if_pos qc_9, wl_eq hw_10, wl_eq hw_11, if_pos qc_12, if_pos qc_13, hq_19, Option.bind_none]; exact nofun)
                refine x_ret (rest := []) (st2 := []) (pc2 := 156) (cu2 := 0) (su2 := 0) (x_cV C (by assumption) (Nat.le_of_ble_eq_true rfl) kmX4_callFrom rfl kk_4_221 (tX4_callFrom_3 hok (by assumption) (by assumption) (by assumption) (by assumption)  hdl hq_19) rfl rfl (Nat.le_of_ble_eq_true rfl) ⟨Nat.le_of_ble_eq_true rfl, Nat.le_of_ble_eq_true rfl⟩ ⟨Nat.le_of_ble_eq_true rfl, Nat.le_of_ble_eq_true rfl⟩ dX4_runProgram_153) rfl rfl rfl rfl ?_
                refine x_goto (tgt := 196) C dX4_runProgram_156 (by decide) ?_
                refine x_iinc (pc2 := 199) (v := y3 + 1) (lv2 := [(3, _), (6, _), (5, _), (4, _), (0, _), (1, _), (2, _)]) C dX4_runProgram_196 3 rfl rfl (by decide) rfl rfl ?_
                refine x_goto (tgt := 2) C dX4_runProgram_199 (by decide) ?_
                exact x_sub (lv2 := [(3, _), (0, _), (1, _), (2, _)]) C [0, 4, 5, 6] rfl (ih (y3 + 1) r_19 (by rw [fX4_runProgram_l2, if_neg qc_1, if_pos qc_3, hq_6, Option.bind_some, if_neg qc_7, if_pos qc_9, wl_eq hw_10, wl_eq hw_11, if_pos qc_12, if_pos qc_13, hq_19, Option.bind_some] at hf; exact hf) hk hk2)
            · refine x_aload_n (pc2 := 136) C dX4_runProgram_135 4 rfl rfl rfl ?_
              refine x_aload_n (pc2 := 137) C dX4_runProgram_136 6 rfl rfl rfl ?_
              refine x_iload (pc2 := 139) C dX4_runProgram_137 2 rfl rfl ?_
              rcases hq_20 : fX4_finish Ω_11 b sg y2 (fX5_operationAt Ω 0 (xI Ω 308 y2 0) (xI Ω 309 y2 0)) with _ | r_20
              · exact absurd hf (by rw [fX4_runProgram_l2, if_neg qc_1, if_pos qc_3, hq_6, Option.bind_some, if_neg qc_7, if_pos qc_9, wl_eq hw_10, wl_eq hw_11, if_neg qc_12, hq_20, Option.bind_none]; exact nofun)
              refine x_ret (rest := []) (st2 := [_]) (pc2 := 142) (cu2 := 0) (su2 := 0) (x_cV C (by assumption) (Nat.le_of_ble_eq_true rfl) kmX4_finish rfl kk_4_217 (tX4_finish hok (by assumption) (by assumption) (by assumption) (by assumption)  hq_20) rfl rfl (Nat.le_of_ble_eq_true rfl) ⟨Nat.le_of_ble_eq_true rfl, Nat.le_of_ble_eq_true rfl⟩ ⟨Nat.le_of_ble_eq_true rfl, Nat.le_of_ble_eq_true rfl⟩ dX4_runProgram_139) rfl rfl rfl rfl ?_
              rcases (Decidable.em (r_20.1 = 0 ∨ r_20.1 = 1)).symm with qg_21 | qg_21
              · exact absurd hf (by rw [fX4_runProgram_l2, if_neg qc_1, if_pos qc_3, hq_6, Option.bind_some, if_neg qc_7, if_pos qc_9, wl_eq hw_10, wl_eq hw_11, if_neg qc_12, hq_20, Option.bind_some, if_neg qg_21]; exact nofun)
              rw [fX4_runProgram_l2, if_neg qc_1, if_pos qc_3, hq_6, Option.bind_some, if_neg qc_7, if_pos qc_9, wl_eq hw_10, wl_eq hw_11, if_neg qc_12, hq_20, Option.bind_some, if_pos qg_21] at hf
              obtain ⟨hT9, hW9⟩ := hk _ (Option.some.inj hf).symm
              exact x_zreturn C dX4_runProgram_142 rfl qg_21 (Nat.le_of_ble_eq_true rfl) (Nat.le_of_ble_eq_true rfl) hT9 hW9
          · refine x_aload_n (pc2 := 101) C dX4_runProgram_100 6 rfl rfl rfl ?_
            refine x_iconst (pc2 := 102) (v := 0) C dX4_runProgram_101 rfl rfl ?_
            refine x_putI (pc2 := 105) (f := 310) C (by assumption) kf_4_70 dX4_runProgram_102 rfl rfl rfl rfl rfl ?_
            obtain ⟨Ω_22, hw_22⟩ : ∃ z, z = uI Ω 310 y2 0 (0 : Int32) := ⟨_, rfl⟩
            refine x_om hw_22 ?_
            refine x_iconst (pc2 := 106) (v := 0) C dX4_runProgram_105 rfl rfl ?_
            rw [fX4_runProgram_l2, if_neg qc_1, if_pos qc_3, hq_6, Option.bind_some, if_neg qc_7, if_neg qc_9, wl_eq hw_22] at hf
            obtain ⟨hT9, hW9⟩ := hk _ (Option.some.inj hf).symm
            exact x_zreturn C dX4_runProgram_106 rfl (by first | exact Or.inl rfl | exact Or.inr rfl) (Nat.le_of_ble_eq_true rfl) (Nat.le_of_ble_eq_true rfl) hT9 hW9
      · refine x_iconst (pc2 := 27) (v := 1) C dX4_runProgram_26 rfl rfl ?_
        rw [fX4_runProgram_l2, if_neg qc_1, if_neg qc_3] at hf
        obtain ⟨hT9, hW9⟩ := hk _ (Option.some.inj hf).symm
        exact x_zreturn C dX4_runProgram_27 rfl (by first | exact Or.inl rfl | exact Or.inr rfl) (Nat.le_of_ble_eq_true rfl) (Nat.le_of_ble_eq_true rfl) hT9 hW9
set_option maxRecDepth 20000 in
theorem tX4_runProgram_3 {G : XG} (hok : XK G) {b : Nat} {sg : Nat} {dl : XO → Int32 → Int32 → Int32 → Int32 → Int32 → Int32 → Option (Int32 × XO)} {x1 : Int32} {i2 : Nat} {Ω : XO} (hd0 : dm G 4 0) (hd2 : dm G 3 i2) (db : dm G 0 b) (ds : dm G 6 sg) (hdl : ∀ {Ω : XO} {x1 x2 x3 x4 x5 x6 : Int32} {r : Int32 × XO}, dl Ω x1 x2 x3 x4 x5 x6 = some r → XM G yX4_deliver cX4_deliver 10 ((some FieldType.boolean)) (RM 10 0) [.ref (ad G 4 0), .int x1, .int x2, .int x3, .int x4, .int x5, .int x6] Ω (.inl (some (.int r.1))) r.2) {r : Int32 × XO} (hf : fX4_runProgram Ω b sg dl x1 i2 = some r) : XM G yX4_runProgram cX4_runProgram 7 ((some FieldType.boolean)) (RM 12 0) [.ref (ad G 4 0), .int x1, .ref (ad G 3 i2)] Ω (.inl (some (.int (r.1)))) r.2 := by
  refine x_start (lv := [(0, .ref (ad G 4 0)), (1, .int x1), (2, .ref (ad G 3 i2))]) (own := RX4) hok (by decide +kernel) rfl (Nat.le_of_ble_eq_true rfl) rfl (fun B C => ?_)
  refine x_iconst (pc2 := 1) (v := 0) C dX4_runProgram_0 rfl rfl ?_
  refine x_istore_n (pc2 := 2) (lv2 := [(3, _), (0, _), (1, _), (2, _)]) C dX4_runProgram_1 rfl (by decide) rfl rfl ?_
  rcases hq_1 : fX4_runProgram_l2 b sg dl x1 i2 1000001 (0 : Int32) Ω with _ | (v_1 | q_1)
  · exact absurd hf (by rw [fX4_runProgram, hq_1, Option.bind_none]; exact nofun)
  · exact x_sub (lv2 := [(3, _), (0, _), (1, _), (2, _)]) C [0, 1, 2, 3] rfl (lX4_runProgram_l2_3 hok (by assumption) (by assumption) (by assumption) (by assumption) hdl C 1000001 (0 : Int32) Ω hq_1 (fun v9 h9 => by cases h9; rw [fX4_runProgram, hq_1, Option.bind_some, Sum.elim_inl] at hf; cases hf; exact ⟨rfl, rfl⟩) (fun _ h9 => nomatch h9))
  refine x_sub (lv2 := [(3, _), (0, _), (1, _), (2, _)]) C [0, 1, 2, 3] rfl (lX4_runProgram_l2_3 hok (by assumption) (by assumption) (by assumption) (by assumption) hdl C 1000001 (0 : Int32) Ω hq_1 (fun _ h9 => nomatch h9) (fun q9 h9 => ?_))
  cases h9
  refine x_iconst (pc2 := 203) (v := 0) C dX4_runProgram_202 rfl rfl ?_
  rw [fX4_runProgram, hq_1, Option.bind_some, Sum.elim_inr] at hf
  cases hf
  exact x_zreturn C dX4_runProgram_203 rfl (by first | exact Or.inl rfl | exact Or.inr rfl) (Nat.le_of_ble_eq_true rfl) (Nat.le_of_ble_eq_true rfl) rfl rfl
set_option maxRecDepth 20000 in
theorem tX4_deliver_s_3 {G : XG} (hok : XK G) {b : Nat} {sg : Nat} {dl : XO → Int32 → Int32 → Int32 → Int32 → Int32 → Int32 → Option (Int32 × XO)} {x1 : Int32} {x2 : Int32} {x3 : Int32} {x4 : Int32} {x5 : Int32} {x6 : Int32} {Ω : XO} (hd0 : dm G 4 0) (db : dm G 0 b) (ds : dm G 6 sg) (hdl : ∀ {Ω : XO} {x1 x2 x3 x4 x5 x6 : Int32} {r : Int32 × XO}, dl Ω x1 x2 x3 x4 x5 x6 = some r → XM G yX4_deliver cX4_deliver 10 ((some FieldType.boolean)) (RM 10 0) [.ref (ad G 4 0), .int x1, .int x2, .int x3, .int x4, .int x5, .int x6] Ω (.inl (some (.int r.1))) r.2) {r : Int32 × XO} (hf : fX4_deliver_s Ω b sg dl x1 x2 x3 x4 x5 x6 = some r) : XM G yX4_deliver cX4_deliver 10 ((some FieldType.boolean)) (RM 13 0) [.ref (ad G 4 0), .int x1, .int x2, .int x3, .int x4, .int x5, .int x6] Ω (.inl (some (.int (r.1)))) r.2 := by
  refine x_start (lv := [(0, .ref (ad G 4 0)), (1, .int x1), (2, .int x2), (3, .int x3), (4, .int x4), (5, .int x5), (6, .int x6)]) (own := RX4) hok (by decide +kernel) rfl (Nat.le_of_ble_eq_true rfl) rfl (fun B C => ?_)
  refine x_iload_n (pc2 := 1) C dX4_deliver_0 1 rfl rfl rfl ?_
  refine x_iconst (pc2 := 2) (v := 1) C dX4_deliver_1 rfl rfl ?_
  refine x_icmp_lt (tgt := 10) (pc2 := 5) C dX4_deliver_2 (by decide) rfl (fun qc_1 => ?_) (fun qc_1 => ?_)
  · refine x_iconst (pc2 := 11) (v := 0) C dX4_deliver_10 rfl rfl ?_
    rw [fX4_deliver_s, if_pos qc_1] at hf
    cases hf
    exact x_zreturn C dX4_deliver_11 rfl (by first | exact Or.inl rfl | exact Or.inr rfl) (Nat.le_of_ble_eq_true rfl) (Nat.le_of_ble_eq_true rfl) rfl rfl
  · refine x_iload_n (pc2 := 6) C dX4_deliver_5 1 rfl rfl rfl ?_
    refine x_iconst (pc2 := 7) (v := 4) C dX4_deliver_6 rfl rfl ?_
    refine x_icmp_le (tgt := 12) (pc2 := 10) C dX4_deliver_7 (by decide) rfl (fun qc_2 => ?_) (fun qc_2 => ?_)
    · refine x_aload_n (pc2 := 13) C dX4_deliver_12 0 rfl rfl rfl ?_
      refine x_getR (f := 401) (k2 := 2007) (pc2 := 16) C (by assumption) kf_4_11 dX4_deliver_13 rfl rfl rfl (rti_i rfl) rfl (fun qd_3 => ?_)
      refine x_iload_n (pc2 := 17) C dX4_deliver_16 1 rfl rfl rfl ?_
      refine x_iconst (pc2 := 18) (v := 1) C dX4_deliver_17 rfl rfl ?_
      refine x_isub (pc2 := 19) C dX4_deliver_18 rfl ?_
      rcases (Decidable.em (inB (x1 - (1 : Int32)) 4)).symm with qg_4 | qg_4
      · exact absurd hf (by rw [fX4_deliver_s, if_neg qc_1, if_pos qc_2, if_neg qg_4]; exact nofun)
      refine x_aald (k2 := 3) (pc2 := 20) C (by assumption) dX4_deliver_19 rfl rfl (inB_in qg_4) rfl (eli_2007 _ _) rfl (fun qd_5 => ?_)
      refine x_astore (pc2 := 22) (lv2 := [(7, _), (0, _), (1, _), (2, _), (3, _), (4, _), (5, _), (6, _)]) C dX4_deliver_20 (by decide) rfl rfl ?_
      refine x_aload (pc2 := 24) C dX4_deliver_22 0 rfl rfl ?_
      refine x_iload (pc2 := 26) C dX4_deliver_24 7 rfl rfl ?_
      refine x_putI (pc2 := 29) (f := 310) C (by assumption) kf_4_70 dX4_deliver_26 rfl rfl rfl rfl rfl ?_
      obtain ⟨Ω_6, hw_6⟩ : ∃ z, z = uI Ω 310 ((x1 - (1 : Int32)).toNatClampNeg) 0 x6 := ⟨_, rfl⟩
      refine x_om hw_6 ?_
      refine x_aload_n (pc2 := 30) C dX4_deliver_29 1 rfl rfl rfl ?_
      rcases (Decidable.em (xR Ω_6 404 0 = sg)).symm with qg_7 | qg_7
      · exact absurd hf (by rw [fX4_deliver_s, if_neg qc_1, if_pos qc_2, if_pos qg_4, wl_eq hw_6, if_neg qg_7]; exact nofun)
      refine x_getM (pc2 := 33) (f := 404) (k2 := 6) (v9 := sg) C (by assumption) kf_4_33 dX4_deliver_30 rfl rfl rfl qg_7 rfl ?_
      refine x_getR (f := 602) (k2 := 2013) (pc2 := 36) C (by assumption) kf_4_147 dX4_deliver_33 rfl rfl rfl (rti_i rfl) rfl (fun qd_8 => ?_)
      refine x_iload_n (pc2 := 37) C dX4_deliver_36 4 rfl rfl rfl ?_
      refine x_ret (rest := []) (st2 := [_]) (pc2 := 40) (cu2 := 0) (su2 := 0) (x_cSN C kmX10_at ke_4_129 (tX10_at hok (by assumption) rfl (by decide)) rfl rfl (Nat.le_of_ble_eq_true rfl) ⟨Nat.le_of_ble_eq_true rfl, Nat.le_of_ble_eq_true rfl⟩ ⟨Nat.le_of_ble_eq_true rfl, Nat.le_of_ble_eq_true rfl⟩ dX4_deliver_37) rfl rfl rfl rfl ?_
      refine x_istore (pc2 := 42) (lv2 := [(8, _), (7, _), (0, _), (1, _), (2, _), (3, _), (4, _), (5, _), (6, _)]) C dX4_deliver_40 (by decide) rfl rfl ?_
      refine x_iload (pc2 := 44) C dX4_deliver_42 0 rfl rfl ?_
      refine x_if_ne (tgt := 60) (pc2 := 47) C dX4_deliver_44 (by decide) rfl (fun qc_9 => ?_) (fun qc_9 => ?_)
      · refine x_aload (pc2 := 62) C dX4_deliver_60 1 rfl rfl ?_
        refine x_iload (pc2 := 64) C dX4_deliver_62 0 rfl rfl ?_
        refine x_iconst (pc2 := 65) (v := 1) C dX4_deliver_64 rfl rfl ?_
        refine x_isub (pc2 := 66) C dX4_deliver_65 rfl ?_
        refine x_iload_n (pc2 := 67) C dX4_deliver_66 4 rfl rfl rfl ?_
        refine x_iload_n (pc2 := 68) C dX4_deliver_67 5 rfl rfl rfl ?_
        refine x_iload (pc2 := 70) C dX4_deliver_68 6 rfl rfl ?_
        refine x_iload (pc2 := 72) C dX4_deliver_70 7 rfl rfl ?_
        refine x_ret (rest := []) (st2 := []) (pc2 := 75) (cu2 := 0) (su2 := 0) (x_cV C (by assumption) (Nat.le_of_ble_eq_true rfl) kmX3_open rfl kk_4_157 (tX3_open hok (by assumption)) rfl rfl (Nat.le_of_ble_eq_true rfl) ⟨Nat.le_of_ble_eq_true rfl, Nat.le_of_ble_eq_true rfl⟩ ⟨Nat.le_of_ble_eq_true rfl, Nat.le_of_ble_eq_true rfl⟩ dX4_deliver_72) rfl rfl rfl rfl ?_
        obtain ⟨Ω_10, hw_10⟩ : ∃ z, z = fX3_open Ω_6 ((x1 - (1 : Int32)).toNatClampNeg) ((sAt Ω_6 2013 sg x3) - (1 : Int32)) x2 x3 x4 x5 := ⟨_, rfl⟩
        refine x_om hw_10 ?_
        refine x_aload (pc2 := 77) C dX4_deliver_75 1 rfl rfl ?_
        refine x_aload_n (pc2 := 78) C dX4_deliver_77 2 rfl rfl rfl ?_
        rcases (Decidable.em (xR Ω_10 404 0 = sg)).symm with qg_11 | qg_11
        · exact absurd hf (by rw [fX4_deliver_s, if_neg qc_1, if_pos qc_2, if_pos qg_4, wl_eq hw_6, if_pos qg_7, if_neg qc_9, wl_eq hw_10, if_neg qg_11]; exact nofun)
        refine x_getM (pc2 := 81) (f := 404) (k2 := 6) (v9 := sg) C (by assumption) kf_4_33 dX4_deliver_78 rfl rfl rfl qg_11 rfl ?_
        refine x_aload_n (pc2 := 82) C dX4_deliver_81 2 rfl rfl rfl ?_
        rcases (Decidable.em (xR Ω_10 403 0 = b)).symm with qg_12 | qg_12
        · exact absurd hf (by rw [fX4_deliver_s, if_neg qc_1, if_pos qc_2, if_pos qg_4, wl_eq hw_6, if_pos qg_7, if_neg qc_9, wl_eq hw_10, if_pos qg_11, if_neg qg_12]; exact nofun)
        refine x_getM (pc2 := 85) (f := 403) (k2 := 0) (v9 := b) C (by assumption) kf_4_26 dX4_deliver_82 rfl rfl rfl qg_12 rfl ?_
        refine x_getI (pc2 := 88) (f := 10) C (by assumption) kf_4_161 dX4_deliver_85 rfl rfl rfl ?_
        refine x_aload_n (pc2 := 89) C dX4_deliver_88 2 rfl rfl rfl ?_
        refine x_getI (pc2 := 92) (f := 406) C (by assumption) kf_4_67 dX4_deliver_89 rfl rfl rfl ?_
        refine x_ret (rest := []) (st2 := []) (pc2 := 95) (cu2 := 0) (su2 := 0) (x_cV C (by assumption) (Nat.le_of_ble_eq_true rfl) kmX3_save rfl kk_4_164 (tX3_save hok (by assumption) (by assumption)) rfl rfl (Nat.le_of_ble_eq_true rfl) ⟨Nat.le_of_ble_eq_true rfl, Nat.le_of_ble_eq_true rfl⟩ ⟨Nat.le_of_ble_eq_true rfl, Nat.le_of_ble_eq_true rfl⟩ dX4_deliver_92) rfl rfl rfl rfl ?_
        obtain ⟨Ω_13, hw_13⟩ : ∃ z, z = fX3_save Ω_10 ((x1 - (1 : Int32)).toNatClampNeg) sg (xI Ω_10 10 b 0) (xI Ω_10 406 0 0) := ⟨_, rfl⟩
        refine x_om hw_13 ?_
        refine x_aload_n (pc2 := 96) C dX4_deliver_95 2 rfl rfl rfl ?_
        rcases (Decidable.em (xR Ω_13 404 0 = sg)).symm with qg_14 | qg_14
        · exact absurd hf (by rw [fX4_deliver_s, if_neg qc_1, if_pos qc_2, if_pos qg_4, wl_eq hw_6, if_pos qg_7, if_neg qc_9, wl_eq hw_10, if_pos qg_11, if_pos qg_12, wl_eq hw_13, if_neg qg_14]; exact nofun)
        refine x_getM (pc2 := 99) (f := 404) (k2 := 6) (v9 := sg) C (by assumption) kf_4_33 dX4_deliver_96 rfl rfl rfl qg_14 rfl ?_
        refine x_iload_n (pc2 := 100) C dX4_deliver_99 4 rfl rfl rfl ?_
        refine x_iload_n (pc2 := 101) C dX4_deliver_100 5 rfl rfl rfl ?_
        refine x_iload (pc2 := 103) C dX4_deliver_101 6 rfl rfl ?_
        refine x_ret (rest := []) (st2 := []) (pc2 := 106) (cu2 := 0) (su2 := 0) (x_cV C (by assumption) (Nat.le_of_ble_eq_true rfl) kmX6_move rfl kk_4_139 (tX6_move hok (by assumption)) rfl rfl (Nat.le_of_ble_eq_true rfl) ⟨Nat.le_of_ble_eq_true rfl, Nat.le_of_ble_eq_true rfl⟩ ⟨Nat.le_of_ble_eq_true rfl, Nat.le_of_ble_eq_true rfl⟩ dX4_deliver_103) rfl rfl rfl rfl ?_
        obtain ⟨Ω_15, hw_15⟩ : ∃ z, z = fX6_move Ω_13 sg x2 x3 x4 := ⟨_, rfl⟩
        refine x_om hw_15 ?_
        refine x_aload_n (pc2 := 107) C dX4_deliver_106 2 rfl rfl rfl ?_
        refine x_iload_n (pc2 := 108) C dX4_deliver_107 3 rfl rfl rfl ?_
        refine x_aload (pc2 := 110) C dX4_deliver_108 1 rfl rfl ?_
        rcases hq_16 : fX4_runProgram Ω_15 b sg dl x1 ((x1 - (1 : Int32)).toNatClampNeg) with _ | r_16
        · exact absurd hf (by rw [fX4_deliver_s, if_neg qc_1, if_pos qc_2, if_pos qg_4, wl_eq hw_6, if_pos qg_7, if_neg qc_9, wl_eq hw_10, if_pos qg_11, if_pos qg_12, wl_eq hw_13, if_pos qg_14, wl_eq hw_15, hq_16, Option.bind_none]; exact nofun)
        refine x_ret (rest := []) (st2 := [_]) (pc2 := 113) (cu2 := 0) (su2 := 0) (x_cV C (by assumption) (Nat.le_of_ble_eq_true rfl) kmX4_runProgram rfl kk_4_168 (tX4_runProgram_3 hok (by assumption) (by assumption) (by assumption) (by assumption)  hdl hq_16) rfl rfl (Nat.le_of_ble_eq_true rfl) ⟨Nat.le_of_ble_eq_true rfl, Nat.le_of_ble_eq_true rfl⟩ ⟨Nat.le_of_ble_eq_true rfl, Nat.le_of_ble_eq_true rfl⟩ dX4_deliver_110) rfl rfl rfl rfl ?_
        refine x_istore (pc2 := 115) (lv2 := [(9, _), (8, _), (7, _), (0, _), (1, _), (2, _), (3, _), (4, _), (5, _), (6, _)]) C dX4_deliver_113 (by decide) rfl rfl ?_
        refine x_iload (pc2 := 117) C dX4_deliver_115 0 rfl rfl ?_
        refine x_if_ne (tgt := 126) (pc2 := 120) C dX4_deliver_117 (by decide) rfl (fun qc_17 => ?_) (fun qc_17 => ?_)
        · refine x_iload (pc2 := 128) C dX4_deliver_126 0 rfl rfl ?_
          rcases (Decidable.em (r_16.1 = 0 ∨ r_16.1 = 1)).symm with qg_18 | qg_18
          · exact absurd hf (by rw [fX4_deliver_s, if_neg qc_1, if_pos qc_2, if_pos qg_4, wl_eq hw_6, if_pos qg_7, if_neg qc_9, wl_eq hw_10, if_pos qg_11, if_pos qg_12, wl_eq hw_13, if_pos qg_14, wl_eq hw_15, hq_16, Option.bind_some, if_neg qc_17, if_neg qg_18]; exact nofun)
          rw [fX4_deliver_s, if_neg qc_1, if_pos qc_2, if_pos qg_4, wl_eq hw_6, if_pos qg_7, if_neg qc_9, wl_eq hw_10, if_pos qg_11, if_pos qg_12, wl_eq hw_13, if_pos qg_14, wl_eq hw_15, hq_16, Option.bind_some, if_neg qc_17, if_pos qg_18] at hf
          cases hf
          exact x_zreturn C dX4_deliver_128 rfl qg_18 (Nat.le_of_ble_eq_true rfl) (Nat.le_of_ble_eq_true rfl) rfl rfl
        · refine x_aload_n (pc2 := 121) C dX4_deliver_120 3 rfl rfl rfl ?_
          refine x_aload (pc2 := 123) C dX4_deliver_121 2 rfl rfl ?_
          rcases hq_19 : fX4_undo r_16.2 b sg ((x1 - (1 : Int32)).toNatClampNeg) with _ | r_19
          · exact absurd hf (by rw [fX4_deliver_s, if_neg qc_1, if_pos qc_2, if_pos qg_4, wl_eq hw_6, if_pos qg_7, if_neg qc_9, wl_eq hw_10, if_pos qg_11, if_pos qg_12, wl_eq hw_13, if_pos qg_14, wl_eq hw_15, hq_16, Option.bind_some, if_pos qc_17, hq_19, Option.bind_none]; exact nofun)
          refine x_ret (rest := []) (st2 := []) (pc2 := 126) (cu2 := 0) (su2 := 0) (x_cV C (by assumption) (Nat.le_of_ble_eq_true rfl) kmX4_undo rfl kk_4_172 (tX4_undo hok (by assumption) (by assumption) (by assumption) (by assumption)  hq_19) rfl rfl (Nat.le_of_ble_eq_true rfl) ⟨Nat.le_of_ble_eq_true rfl, Nat.le_of_ble_eq_true rfl⟩ ⟨Nat.le_of_ble_eq_true rfl, Nat.le_of_ble_eq_true rfl⟩ dX4_deliver_123) rfl rfl rfl rfl ?_
          refine x_iload (pc2 := 128) C dX4_deliver_126 0 rfl rfl ?_
          rcases (Decidable.em (r_16.1 = 0 ∨ r_16.1 = 1)).symm with qg_20 | qg_20
          · exact absurd hf (by rw [fX4_deliver_s, if_neg qc_1, if_pos qc_2, if_pos qg_4, wl_eq hw_6, if_pos qg_7, if_neg qc_9, wl_eq hw_10, if_pos qg_11, if_pos qg_12, wl_eq hw_13, if_pos qg_14, wl_eq hw_15, hq_16, Option.bind_some, if_pos qc_17, hq_19, Option.bind_some, if_neg qg_20]; exact nofun)
          rw [fX4_deliver_s, if_neg qc_1, if_pos qc_2, if_pos qg_4, wl_eq hw_6, if_pos qg_7, if_neg qc_9, wl_eq hw_10, if_pos qg_11, if_pos qg_12, wl_eq hw_13, if_pos qg_14, wl_eq hw_15, hq_16, Option.bind_some, if_pos qc_17, hq_19, Option.bind_some, if_pos qg_20] at hf
          cases hf
          exact x_zreturn C dX4_deliver_128 rfl qg_20 (Nat.le_of_ble_eq_true rfl) (Nat.le_of_ble_eq_true rfl) rfl rfl
      · refine x_aload_n (pc2 := 48) C dX4_deliver_47 2 rfl rfl rfl ?_
        rcases (Decidable.em (xR Ω_6 404 0 = sg)).symm with qg_21 | qg_21
        · exact absurd hf (by rw [fX4_deliver_s, if_neg qc_1, if_pos qc_2, if_pos qg_4, wl_eq hw_6, if_pos qg_7, if_pos qc_9, if_neg qg_21]; exact nofun)
        refine x_getM (pc2 := 51) (f := 404) (k2 := 6) (v9 := sg) C (by assumption) kf_4_33 dX4_deliver_48 rfl rfl rfl qg_21 rfl ?_
        refine x_iload_n (pc2 := 52) C dX4_deliver_51 4 rfl rfl rfl ?_
        refine x_iload_n (pc2 := 53) C dX4_deliver_52 5 rfl rfl rfl ?_
        refine x_iload (pc2 := 55) C dX4_deliver_53 6 rfl rfl ?_
        refine x_ret (rest := []) (st2 := []) (pc2 := 58) (cu2 := 0) (su2 := 0) (x_cV C (by assumption) (Nat.le_of_ble_eq_true rfl) kmX6_move rfl kk_4_139 (tX6_move hok (by assumption)) rfl rfl (Nat.le_of_ble_eq_true rfl) ⟨Nat.le_of_ble_eq_true rfl, Nat.le_of_ble_eq_true rfl⟩ ⟨Nat.le_of_ble_eq_true rfl, Nat.le_of_ble_eq_true rfl⟩ dX4_deliver_55) rfl rfl rfl rfl ?_
        obtain ⟨Ω_22, hw_22⟩ : ∃ z, z = fX6_move Ω_6 sg x2 x3 x4 := ⟨_, rfl⟩
        refine x_om hw_22 ?_
        refine x_iconst (pc2 := 59) (v := 1) C dX4_deliver_58 rfl rfl ?_
        rw [fX4_deliver_s, if_neg qc_1, if_pos qc_2, if_pos qg_4, wl_eq hw_6, if_pos qg_7, if_pos qc_9, if_pos qg_21, wl_eq hw_22] at hf
        cases hf
        exact x_zreturn C dX4_deliver_59 rfl (by first | exact Or.inl rfl | exact Or.inr rfl) (Nat.le_of_ble_eq_true rfl) (Nat.le_of_ble_eq_true rfl) rfl rfl
    · refine x_iconst (pc2 := 11) (v := 0) C dX4_deliver_10 rfl rfl ?_
      rw [fX4_deliver_s, if_neg qc_1, if_neg qc_2] at hf
      cases hf
      exact x_zreturn C dX4_deliver_11 rfl (by first | exact Or.inl rfl | exact Or.inr rfl) (Nat.le_of_ble_eq_true rfl) (Nat.le_of_ble_eq_true rfl) rfl rfl
theorem tX4_dl_4 {G : XG} (hok : XK G) (hd0 : dm G 4 0) {b sg : Nat} (db : dm G 0 b) (ds : dm G 6 sg) {Ω : XO} {x1 x2 x3 x4 x5 x6 : Int32} {r : Int32 × XO} (hf : fX4_deliver b sg 4 Ω x1 x2 x3 x4 x5 x6 = some r) : XM G yX4_deliver cX4_deliver 10 ((some FieldType.boolean)) (RM 13 0) [.ref (ad G 4 0), .int x1, .int x2, .int x3, .int x4, .int x5, .int x6] Ω (.inl (some (.int r.1))) r.2 :=
  tX4_deliver_s_3 hok hd0 db ds (fun h9 => tX4_dl_3 hok hd0 db ds h9) hf
def fX4_transact (Ω : XO) (b : Nat) (sg : Nat) (i1 : Nat) : Option (XO) := (if xR Ω 403 0 = b then (if xR Ω 404 0 = sg then (wl (fX6_raiseNonce Ω sg (xI Ω 701 i1 0)) (fun Ω_3 => (if xR Ω_3 404 0 = sg then (wl (fX6_gain Ω_3 sg (xI Ω_3 701 i1 0) ((-(xI Ω_3 706 i1 0)) * (fX7_priceAt Ω i1 (xI Ω 5 b 0)))) (fun Ω_5 => (wl (uI Ω_5 406 0 0 (0 : Int32)) (fun Ω_6 => (wl (uI Ω_6 310 ((0 : Int32).toNatClampNeg) 0 ((xI Ω_6 706 i1 0) - (20 : Int32))) (fun Ω_9 => (if (xI Ω_9 709 i1 0) = (-1 : Int32) then (if (xI Ω_9 703 i1 0) < (16 : Int32) then (fX4_deliver b sg 4 Ω_9 (1 : Int32) (xI Ω_9 701 i1 0) (xI Ω_9 703 i1 0) (xI Ω_9 704 i1 0) (xI Ω_9 705 i1 0) (xI Ω_9 310 ((0 : Int32).toNatClampNeg) 0)).bind (fun r_12 => (if r_12.1 = 0 ∨ r_12.1 = 1 then (wl (uI r_12.2 408 0 0 r_12.1) (fun Ω_14 => (fX4_settleGas Ω_14 b sg i1 (fX7_priceAt Ω i1 (xI Ω 5 b 0)) ((xI Ω_14 706 i1 0) - (xI Ω_14 310 ((0 : Int32).toNatClampNeg) 0))).bind (fun r_15 => (some r_15)))) else none)) else (fX4_found Ω_9 b sg (xI Ω_9 701 i1 0) (xI Ω_9 702 i1 0) ((xI Ω_9 703 i1 0) - (16 : Int32)) (xI Ω_9 704 i1 0)).bind (fun r_16 => (if r_16.1 = 0 then (wl (uI r_16.2 408 0 0 (0 : Int32)) (fun Ω_18 => (fX4_settleGas Ω_18 b sg i1 (fX7_priceAt Ω i1 (xI Ω 5 b 0)) ((xI Ω_18 706 i1 0) - (xI Ω_18 310 ((0 : Int32).toNatClampNeg) 0))).bind (fun r_19 => (some r_19)))) else (wl (uI r_16.2 408 0 0 (1 : Int32)) (fun Ω_20 => (fX4_settleGas Ω_20 b sg i1 (fX7_priceAt Ω i1 (xI Ω 5 b 0)) ((xI Ω_20 706 i1 0) - (xI Ω_20 310 ((0 : Int32).toNatClampNeg) 0))).bind (fun r_21 => (some r_21))))))) else (fX4_payOut Ω_9 b sg i1).bind (fun r_22 => (if r_22.1 = 0 ∨ r_22.1 = 1 then (wl (uI r_22.2 408 0 0 r_22.1) (fun Ω_24 => (fX4_settleGas Ω_24 b sg i1 (fX7_priceAt Ω i1 (xI Ω 5 b 0)) ((xI Ω_24 706 i1 0) - (xI Ω_24 310 ((0 : Int32).toNatClampNeg) 0))).bind (fun r_25 => (some r_25)))) else none))))))))) else none))) else none) else none)
set_option maxRecDepth 20000 in
theorem tX4_transact {G : XG} (hok : XK G) {b : Nat} {sg : Nat} {i1 : Nat} {Ω : XO} (hd0 : dm G 4 0) (hd1 : dm G 7 i1) (db : dm G 0 b) (ds : dm G 6 sg)  {r : XO} (hf : fX4_transact Ω b sg i1 = some r) : XM G yX4_transact cX4_transact 4 none (RM 14 0) [.ref (ad G 4 0), .ref (ad G 7 i1)] Ω (.inl none) (r) := by
  refine x_start (lv := [(0, .ref (ad G 4 0)), (1, .ref (ad G 7 i1))]) (own := RX4) hok (by decide +kernel) rfl (Nat.le_of_ble_eq_true rfl) rfl (fun B C => ?_)
  refine x_aload_n (pc2 := 1) C dX4_transact_0 1 rfl rfl rfl ?_
  refine x_aload_n (pc2 := 2) C dX4_transact_1 0 rfl rfl rfl ?_
  rcases (Decidable.em (xR Ω 403 0 = b)).symm with qg_1 | qg_1
  · exact absurd hf (by rw [fX4_transact, if_neg qg_1]; exact nofun)
  refine x_getM (pc2 := 5) (f := 403) (k2 := 0) (v9 := b) C (by assumption) kf_4_26 dX4_transact_2 rfl rfl rfl qg_1 rfl ?_
  refine x_getI (pc2 := 8) (f := 5) C (by assumption) kf_4_43 dX4_transact_5 rfl rfl rfl ?_
  refine x_ret (rest := []) (st2 := [_]) (pc2 := 11) (cu2 := 0) (su2 := 0) (x_cV C (by assumption) (Nat.le_of_ble_eq_true rfl) kmX7_priceAt rfl kk_4_46 (tX7_priceAt hok (by assumption)) rfl rfl (Nat.le_of_ble_eq_true rfl) ⟨Nat.le_of_ble_eq_true rfl, Nat.le_of_ble_eq_true rfl⟩ ⟨Nat.le_of_ble_eq_true rfl, Nat.le_of_ble_eq_true rfl⟩ dX4_transact_8) rfl rfl rfl rfl ?_
  refine x_istore_n (pc2 := 12) (lv2 := [(2, _), (0, _), (1, _)]) C dX4_transact_11 rfl (by decide) rfl rfl ?_
  refine x_aload_n (pc2 := 13) C dX4_transact_12 1 rfl rfl rfl ?_
  rcases (Decidable.em (xR Ω 404 0 = sg)).symm with qg_2 | qg_2
  · exact absurd hf (by rw [fX4_transact, if_pos qg_1, if_neg qg_2]; exact nofun)
  refine x_getM (pc2 := 16) (f := 404) (k2 := 6) (v9 := sg) C (by assumption) kf_4_33 dX4_transact_13 rfl rfl rfl qg_2 rfl ?_
  refine x_aload_n (pc2 := 17) C dX4_transact_16 2 rfl rfl rfl ?_
  refine x_getI (pc2 := 20) (f := 701) C (by assumption) kf_4_52 dX4_transact_17 rfl rfl rfl ?_
  refine x_ret (rest := []) (st2 := []) (pc2 := 23) (cu2 := 0) (su2 := 0) (x_cV C (by assumption) (Nat.le_of_ble_eq_true rfl) kmX6_raiseNonce rfl kk_4_55 (tX6_raiseNonce hok (by assumption)) rfl rfl (Nat.le_of_ble_eq_true rfl) ⟨Nat.le_of_ble_eq_true rfl, Nat.le_of_ble_eq_true rfl⟩ ⟨Nat.le_of_ble_eq_true rfl, Nat.le_of_ble_eq_true rfl⟩ dX4_transact_20) rfl rfl rfl rfl ?_
  obtain ⟨Ω_3, hw_3⟩ : ∃ z, z = fX6_raiseNonce Ω sg (xI Ω 701 i1 0) := ⟨_, rfl⟩
  refine x_om hw_3 ?_
  refine x_aload_n (pc2 := 24) C dX4_transact_23 1 rfl rfl rfl ?_
  rcases (Decidable.em (xR Ω_3 404 0 = sg)).symm with qg_4 | qg_4
  · exact absurd hf (by rw [fX4_transact, if_pos qg_1, if_pos qg_2, wl_eq hw_3, if_neg qg_4]; exact nofun)
  refine x_getM (pc2 := 27) (f := 404) (k2 := 6) (v9 := sg) C (by assumption) kf_4_33 dX4_transact_24 rfl rfl rfl qg_4 rfl ?_
  refine x_aload_n (pc2 := 28) C dX4_transact_27 2 rfl rfl rfl ?_
  refine x_getI (pc2 := 31) (f := 701) C (by assumption) kf_4_52 dX4_transact_28 rfl rfl rfl ?_
  refine x_aload_n (pc2 := 32) C dX4_transact_31 2 rfl rfl rfl ?_
  refine x_getI (pc2 := 35) (f := 706) C (by assumption) kf_4_60 dX4_transact_32 rfl rfl rfl ?_
  refine x_ineg (pc2 := 36) C dX4_transact_35 rfl ?_
  refine x_iload_n (pc2 := 37) C dX4_transact_36 0 rfl rfl rfl ?_
  refine x_imul (pc2 := 38) C dX4_transact_37 rfl ?_
  refine x_ret (rest := []) (st2 := []) (pc2 := 41) (cu2 := 0) (su2 := 0) (x_cV C (by assumption) (Nat.le_of_ble_eq_true rfl) kmX6_gain rfl kk_4_63 (tX6_gain hok (by assumption)) rfl rfl (Nat.le_of_ble_eq_true rfl) ⟨Nat.le_of_ble_eq_true rfl, Nat.le_of_ble_eq_true rfl⟩ ⟨Nat.le_of_ble_eq_true rfl, Nat.le_of_ble_eq_true rfl⟩ dX4_transact_38) rfl rfl rfl rfl ?_
  obtain ⟨Ω_5, hw_5⟩ : ∃ z, z = fX6_gain Ω_3 sg (xI Ω_3 701 i1 0) ((-(xI Ω_3 706 i1 0)) * (fX7_priceAt Ω i1 (xI Ω 5 b 0))) := ⟨_, rfl⟩
  refine x_om hw_5 ?_
  refine x_aload_n (pc2 := 42) C dX4_transact_41 1 rfl rfl rfl ?_
  refine x_iconst (pc2 := 43) (v := 0) C dX4_transact_42 rfl rfl ?_
  refine x_putI (pc2 := 46) (f := 406) C (by assumption) kf_4_67 dX4_transact_43 rfl rfl rfl rfl rfl ?_
  obtain ⟨Ω_6, hw_6⟩ : ∃ z, z = uI Ω_5 406 0 0 (0 : Int32) := ⟨_, rfl⟩
  refine x_om hw_6 ?_
  refine x_aload_n (pc2 := 47) C dX4_transact_46 1 rfl rfl rfl ?_
  refine x_getR (f := 401) (k2 := 2007) (pc2 := 50) C (by assumption) kf_4_11 dX4_transact_47 rfl rfl rfl (rti_i rfl) rfl (fun qd_7 => ?_)
  refine x_iconst (pc2 := 51) (v := 0) C dX4_transact_50 rfl rfl ?_
  refine x_aald (k2 := 3) (pc2 := 52) C (by assumption) dX4_transact_51 rfl rfl (vp_in_iff.mpr (by decide)) rfl (eli_2007 _ _) rfl (fun qd_8 => ?_)
  refine x_astore_n (pc2 := 53) (lv2 := [(3, _), (2, _), (0, _), (1, _)]) C dX4_transact_52 rfl (by decide) rfl rfl ?_
  refine x_aload_n (pc2 := 54) C dX4_transact_53 0 rfl rfl rfl ?_
  refine x_aload_n (pc2 := 55) C dX4_transact_54 3 rfl rfl rfl ?_
  refine x_getI (pc2 := 58) (f := 706) C (by assumption) kf_4_60 dX4_transact_55 rfl rfl rfl ?_
  refine x_bipush (pc2 := 60) (v := 20) C dX4_transact_58 rfl rfl ?_
  refine x_isub (pc2 := 61) C dX4_transact_60 rfl ?_
  refine x_putI (pc2 := 64) (f := 310) C (by assumption) kf_4_70 dX4_transact_61 rfl rfl rfl rfl rfl ?_
  obtain ⟨Ω_9, hw_9⟩ : ∃ z, z = uI Ω_6 310 ((0 : Int32).toNatClampNeg) 0 ((xI Ω_6 706 i1 0) - (20 : Int32)) := ⟨_, rfl⟩
  refine x_om hw_9 ?_
  refine x_aload_n (pc2 := 65) C dX4_transact_64 3 rfl rfl rfl ?_
  refine x_getI (pc2 := 68) (f := 709) C (by assumption) kf_4_71 dX4_transact_65 rfl rfl rfl ?_
  refine x_iconst (pc2 := 69) (v := (-1)) C dX4_transact_68 rfl rfl ?_
  refine x_icmp_eq (tgt := 84) (pc2 := 72) C dX4_transact_69 (by decide) rfl (fun qc_10 => ?_) (fun qc_10 => ?_)
  · refine x_aload_n (pc2 := 85) C dX4_transact_84 3 rfl rfl rfl ?_
    refine x_getI (pc2 := 88) (f := 703) C (by assumption) kf_4_82 dX4_transact_85 rfl rfl rfl ?_
    refine x_bipush (pc2 := 90) (v := 16) C dX4_transact_88 rfl rfl ?_
    refine x_icmp_lt (tgt := 131) (pc2 := 93) C dX4_transact_90 (by decide) rfl (fun qc_11 => ?_) (fun qc_11 => ?_)
    · refine x_aload_n (pc2 := 132) C dX4_transact_131 2 rfl rfl rfl ?_
      refine x_aload_n (pc2 := 133) C dX4_transact_132 2 rfl rfl rfl ?_
      refine x_iconst (pc2 := 134) (v := 1) C dX4_transact_133 rfl rfl ?_
      refine x_aload_n (pc2 := 135) C dX4_transact_134 3 rfl rfl rfl ?_
      refine x_getI (pc2 := 138) (f := 701) C (by assumption) kf_4_52 dX4_transact_135 rfl rfl rfl ?_
      refine x_aload_n (pc2 := 139) C dX4_transact_138 3 rfl rfl rfl ?_
      refine x_getI (pc2 := 142) (f := 703) C (by assumption) kf_4_82 dX4_transact_139 rfl rfl rfl ?_
      refine x_aload_n (pc2 := 143) C dX4_transact_142 3 rfl rfl rfl ?_
      refine x_getI (pc2 := 146) (f := 704) C (by assumption) kf_4_88 dX4_transact_143 rfl rfl rfl ?_
      refine x_aload_n (pc2 := 147) C dX4_transact_146 3 rfl rfl rfl ?_
      refine x_getI (pc2 := 150) (f := 705) C (by assumption) kf_4_95 dX4_transact_147 rfl rfl rfl ?_
      refine x_aload_n (pc2 := 151) C dX4_transact_150 0 rfl rfl rfl ?_
      refine x_getI (pc2 := 154) (f := 310) C (by assumption) kf_4_70 dX4_transact_151 rfl rfl rfl ?_
      rcases hq_12 : fX4_deliver b sg 4 Ω_9 (1 : Int32) (xI Ω_9 701 i1 0) (xI Ω_9 703 i1 0) (xI Ω_9 704 i1 0) (xI Ω_9 705 i1 0) (xI Ω_9 310 ((0 : Int32).toNatClampNeg) 0) with _ | r_12
      · exact absurd hf (by rw [fX4_transact, if_pos qg_1, if_pos qg_2, wl_eq hw_3, if_pos qg_4, wl_eq hw_5, wl_eq hw_6, wl_eq hw_9, if_pos qc_10, if_pos qc_11, hq_12, Option.bind_none]; exact nofun)
      refine x_ret (rest := [_]) (st2 := [_, _]) (pc2 := 157) (cu2 := 0) (su2 := 0) (x_cV C (by assumption) (Nat.le_of_ble_eq_true rfl) kmX4_deliver rfl kk_4_98 (tX4_dl_4 hok (by assumption) (by assumption) (by assumption) hq_12) rfl rfl (Nat.le_of_ble_eq_true rfl) ⟨Nat.le_of_ble_eq_true rfl, Nat.le_of_ble_eq_true rfl⟩ ⟨Nat.le_of_ble_eq_true rfl, Nat.le_of_ble_eq_true rfl⟩ dX4_transact_154) rfl rfl rfl rfl ?_
      rcases (Decidable.em (r_12.1 = 0 ∨ r_12.1 = 1)).symm with qg_13 | qg_13
      · exact absurd hf (by rw [fX4_transact, if_pos qg_1, if_pos qg_2, wl_eq hw_3, if_pos qg_4, wl_eq hw_5, wl_eq hw_6, wl_eq hw_9, if_pos qc_10, if_pos qc_11, hq_12, Option.bind_some, if_neg qg_13]; exact nofun)
      refine x_putZ (pc2 := 160) (f := 408) C (by assumption) kf_4_78 dX4_transact_157 rfl rfl rfl qg_13 rfl rfl ?_
      obtain ⟨Ω_14, hw_14⟩ : ∃ z, z = uI r_12.2 408 0 0 r_12.1 := ⟨_, rfl⟩
      refine x_om hw_14 ?_
      refine x_aload_n (pc2 := 161) C dX4_transact_160 2 rfl rfl rfl ?_
      refine x_aload_n (pc2 := 162) C dX4_transact_161 3 rfl rfl rfl ?_
      refine x_iload_n (pc2 := 163) C dX4_transact_162 1 rfl rfl rfl ?_
      refine x_aload_n (pc2 := 164) C dX4_transact_163 3 rfl rfl rfl ?_
      refine x_getI (pc2 := 167) (f := 706) C (by assumption) kf_4_60 dX4_transact_164 rfl rfl rfl ?_
      refine x_aload_n (pc2 := 168) C dX4_transact_167 0 rfl rfl rfl ?_
      refine x_getI (pc2 := 171) (f := 310) C (by assumption) kf_4_70 dX4_transact_168 rfl rfl rfl ?_
      refine x_isub (pc2 := 172) C dX4_transact_171 rfl ?_
      rcases hq_15 : fX4_settleGas Ω_14 b sg i1 (fX7_priceAt Ω i1 (xI Ω 5 b 0)) ((xI Ω_14 706 i1 0) - (xI Ω_14 310 ((0 : Int32).toNatClampNeg) 0)) with _ | r_15
      · exact absurd hf (by rw [fX4_transact, if_pos qg_1, if_pos qg_2, wl_eq hw_3, if_pos qg_4, wl_eq hw_5, wl_eq hw_6, wl_eq hw_9, if_pos qc_10, if_pos qc_11, hq_12, Option.bind_some, if_pos qg_13, wl_eq hw_14, hq_15, Option.bind_none]; exact nofun)
      refine x_ret (rest := []) (st2 := []) (pc2 := 175) (cu2 := 0) (su2 := 0) (x_cV C (by assumption) (Nat.le_of_ble_eq_true rfl) kmX4_settleGas rfl kk_4_102 (tX4_settleGas hok (by assumption) (by assumption) (by assumption) (by assumption)  hq_15) rfl rfl (Nat.le_of_ble_eq_true rfl) ⟨Nat.le_of_ble_eq_true rfl, Nat.le_of_ble_eq_true rfl⟩ ⟨Nat.le_of_ble_eq_true rfl, Nat.le_of_ble_eq_true rfl⟩ dX4_transact_172) rfl rfl rfl rfl ?_
      rw [fX4_transact, if_pos qg_1, if_pos qg_2, wl_eq hw_3, if_pos qg_4, wl_eq hw_5, wl_eq hw_6, wl_eq hw_9, if_pos qc_10, if_pos qc_11, hq_12, Option.bind_some, if_pos qg_13, wl_eq hw_14, hq_15, Option.bind_some] at hf
      cases hf
      exact x_vreturn C dX4_transact_175 rfl (Nat.le_of_ble_eq_true rfl) (Nat.le_of_ble_eq_true rfl) rfl rfl
    · refine x_aload_n (pc2 := 94) C dX4_transact_93 2 rfl rfl rfl ?_
      refine x_aload_n (pc2 := 95) C dX4_transact_94 2 rfl rfl rfl ?_
      refine x_aload_n (pc2 := 96) C dX4_transact_95 3 rfl rfl rfl ?_
      refine x_getI (pc2 := 99) (f := 701) C (by assumption) kf_4_52 dX4_transact_96 rfl rfl rfl ?_
      refine x_aload_n (pc2 := 100) C dX4_transact_99 3 rfl rfl rfl ?_
      refine x_getI (pc2 := 103) (f := 702) C (by assumption) kf_4_85 dX4_transact_100 rfl rfl rfl ?_
      refine x_aload_n (pc2 := 104) C dX4_transact_103 3 rfl rfl rfl ?_
      refine x_getI (pc2 := 107) (f := 703) C (by assumption) kf_4_82 dX4_transact_104 rfl rfl rfl ?_
      refine x_bipush (pc2 := 109) (v := 16) C dX4_transact_107 rfl rfl ?_
      refine x_isub (pc2 := 110) C dX4_transact_109 rfl ?_
      refine x_aload_n (pc2 := 111) C dX4_transact_110 3 rfl rfl rfl ?_
      refine x_getI (pc2 := 114) (f := 704) C (by assumption) kf_4_88 dX4_transact_111 rfl rfl rfl ?_
      rcases hq_16 : fX4_found Ω_9 b sg (xI Ω_9 701 i1 0) (xI Ω_9 702 i1 0) ((xI Ω_9 703 i1 0) - (16 : Int32)) (xI Ω_9 704 i1 0) with _ | r_16
      · exact absurd hf (by rw [fX4_transact, if_pos qg_1, if_pos qg_2, wl_eq hw_3, if_pos qg_4, wl_eq hw_5, wl_eq hw_6, wl_eq hw_9, if_pos qc_10, if_neg qc_11, hq_16, Option.bind_none]; exact nofun)
      refine x_ret (rest := [_]) (st2 := [_, _]) (pc2 := 117) (cu2 := 0) (su2 := 0) (x_cV C (by assumption) (Nat.le_of_ble_eq_true rfl) kmX4_found rfl kk_4_91 (tX4_found hok (by assumption) (by assumption) (by assumption)  hq_16) rfl rfl (Nat.le_of_ble_eq_true rfl) ⟨Nat.le_of_ble_eq_true rfl, Nat.le_of_ble_eq_true rfl⟩ ⟨Nat.le_of_ble_eq_true rfl, Nat.le_of_ble_eq_true rfl⟩ dX4_transact_114) rfl rfl rfl rfl ?_
      refine x_if_eq (tgt := 124) (pc2 := 120) C dX4_transact_117 (by decide) rfl (fun qc_17 => ?_) (fun qc_17 => ?_)
      · refine x_iconst (pc2 := 125) (v := 0) C dX4_transact_124 rfl rfl ?_
        refine x_putZ (pc2 := 128) (f := 408) C (by assumption) kf_4_78 dX4_transact_125 rfl rfl rfl (by first | exact Or.inl rfl | exact Or.inr rfl) rfl rfl ?_
        obtain ⟨Ω_18, hw_18⟩ : ∃ z, z = uI r_16.2 408 0 0 (0 : Int32) := ⟨_, rfl⟩
        refine x_om hw_18 ?_
        refine x_goto (tgt := 160) C dX4_transact_128 (by decide) ?_
        refine x_aload_n (pc2 := 161) C dX4_transact_160 2 rfl rfl rfl ?_
        refine x_aload_n (pc2 := 162) C dX4_transact_161 3 rfl rfl rfl ?_
        refine x_iload_n (pc2 := 163) C dX4_transact_162 1 rfl rfl rfl ?_
        refine x_aload_n (pc2 := 164) C dX4_transact_163 3 rfl rfl rfl ?_
        refine x_getI (pc2 := 167) (f := 706) C (by assumption) kf_4_60 dX4_transact_164 rfl rfl rfl ?_
        refine x_aload_n (pc2 := 168) C dX4_transact_167 0 rfl rfl rfl ?_
        refine x_getI (pc2 := 171) (f := 310) C (by assumption) kf_4_70 dX4_transact_168 rfl rfl rfl ?_
        refine x_isub (pc2 := 172) C dX4_transact_171 rfl ?_
        rcases hq_19 : fX4_settleGas Ω_18 b sg i1 (fX7_priceAt Ω i1 (xI Ω 5 b 0)) ((xI Ω_18 706 i1 0) - (xI Ω_18 310 ((0 : Int32).toNatClampNeg) 0)) with _ | r_19
        · exact absurd hf (by rw [fX4_transact, if_pos qg_1, if_pos qg_2, wl_eq hw_3, if_pos qg_4, wl_eq hw_5, wl_eq hw_6, wl_eq hw_9, if_pos qc_10, if_neg qc_11, hq_16, Option.bind_some, if_pos qc_17, wl_eq hw_18, hq_19, Option.bind_none]; exact nofun)
        refine x_ret (rest := []) (st2 := []) (pc2 := 175) (cu2 := 0) (su2 := 0) (x_cV C (by assumption) (Nat.le_of_ble_eq_true rfl) kmX4_settleGas rfl kk_4_102 (tX4_settleGas hok (by assumption) (by assumption) (by assumption) (by assumption)  hq_19) rfl rfl (Nat.le_of_ble_eq_true rfl) ⟨Nat.le_of_ble_eq_true rfl, Nat.le_of_ble_eq_true rfl⟩ ⟨Nat.le_of_ble_eq_true rfl, Nat.le_of_ble_eq_true rfl⟩ dX4_transact_172) rfl rfl rfl rfl ?_
        rw [fX4_transact, if_pos qg_1, if_pos qg_2, wl_eq hw_3, if_pos qg_4, wl_eq hw_5, wl_eq hw_6, wl_eq hw_9, if_pos qc_10, if_neg qc_11, hq_16, Option.bind_some, if_pos qc_17, wl_eq hw_18, hq_19, Option.bind_some] at hf
        cases hf
        exact x_vreturn C dX4_transact_175 rfl (Nat.le_of_ble_eq_true rfl) (Nat.le_of_ble_eq_true rfl) rfl rfl
      · refine x_iconst (pc2 := 121) (v := 1) C dX4_transact_120 rfl rfl ?_
        refine x_goto (tgt := 125) C dX4_transact_121 (by decide) ?_
        refine x_putZ (pc2 := 128) (f := 408) C (by assumption) kf_4_78 dX4_transact_125 rfl rfl rfl (by first | exact Or.inl rfl | exact Or.inr rfl) rfl rfl ?_
        obtain ⟨Ω_20, hw_20⟩ : ∃ z, z = uI r_16.2 408 0 0 (1 : Int32) := ⟨_, rfl⟩
        refine x_om hw_20 ?_
        refine x_goto (tgt := 160) C dX4_transact_128 (by decide) ?_
        refine x_aload_n (pc2 := 161) C dX4_transact_160 2 rfl rfl rfl ?_
        refine x_aload_n (pc2 := 162) C dX4_transact_161 3 rfl rfl rfl ?_
        refine x_iload_n (pc2 := 163) C dX4_transact_162 1 rfl rfl rfl ?_
        refine x_aload_n (pc2 := 164) C dX4_transact_163 3 rfl rfl rfl ?_
        refine x_getI (pc2 := 167) (f := 706) C (by assumption) kf_4_60 dX4_transact_164 rfl rfl rfl ?_
        refine x_aload_n (pc2 := 168) C dX4_transact_167 0 rfl rfl rfl ?_
        refine x_getI (pc2 := 171) (f := 310) C (by assumption) kf_4_70 dX4_transact_168 rfl rfl rfl ?_
        refine x_isub (pc2 := 172) C dX4_transact_171 rfl ?_
        rcases hq_21 : fX4_settleGas Ω_20 b sg i1 (fX7_priceAt Ω i1 (xI Ω 5 b 0)) ((xI Ω_20 706 i1 0) - (xI Ω_20 310 ((0 : Int32).toNatClampNeg) 0)) with _ | r_21
        · exact absurd hf (by rw [fX4_transact, if_pos qg_1, if_pos qg_2, wl_eq hw_3, if_pos qg_4, wl_eq hw_5, wl_eq hw_6, wl_eq hw_9, if_pos qc_10, if_neg qc_11, hq_16, Option.bind_some, if_neg qc_17, wl_eq hw_20, hq_21, Option.bind_none]; exact nofun)
        refine x_ret (rest := []) (st2 := []) (pc2 := 175) (cu2 := 0) (su2 := 0) (x_cV C (by assumption) (Nat.le_of_ble_eq_true rfl) kmX4_settleGas rfl kk_4_102 (tX4_settleGas hok (by assumption) (by assumption) (by assumption) (by assumption)  hq_21) rfl rfl (Nat.le_of_ble_eq_true rfl) ⟨Nat.le_of_ble_eq_true rfl, Nat.le_of_ble_eq_true rfl⟩ ⟨Nat.le_of_ble_eq_true rfl, Nat.le_of_ble_eq_true rfl⟩ dX4_transact_172) rfl rfl rfl rfl ?_
        rw [fX4_transact, if_pos qg_1, if_pos qg_2, wl_eq hw_3, if_pos qg_4, wl_eq hw_5, wl_eq hw_6, wl_eq hw_9, if_pos qc_10, if_neg qc_11, hq_16, Option.bind_some, if_neg qc_17, wl_eq hw_20, hq_21, Option.bind_some] at hf
        cases hf
        exact x_vreturn C dX4_transact_175 rfl (Nat.le_of_ble_eq_true rfl) (Nat.le_of_ble_eq_true rfl) rfl rfl
  · refine x_aload_n (pc2 := 73) C dX4_transact_72 2 rfl rfl rfl ?_
    refine x_aload_n (pc2 := 74) C dX4_transact_73 2 rfl rfl rfl ?_
    refine x_aload_n (pc2 := 75) C dX4_transact_74 3 rfl rfl rfl ?_
    rcases hq_22 : fX4_payOut Ω_9 b sg i1 with _ | r_22
    · exact absurd hf (by rw [fX4_transact, if_pos qg_1, if_pos qg_2, wl_eq hw_3, if_pos qg_4, wl_eq hw_5, wl_eq hw_6, wl_eq hw_9, if_neg qc_10, hq_22, Option.bind_none]; exact nofun)
    refine x_ret (rest := [_]) (st2 := [_, _]) (pc2 := 78) (cu2 := 0) (su2 := 0) (x_cV C (by assumption) (Nat.le_of_ble_eq_true rfl) kmX4_payOut rfl kk_4_74 (tX4_payOut hok (by assumption) (by assumption) (by assumption) (by assumption)  hq_22) rfl rfl (Nat.le_of_ble_eq_true rfl) ⟨Nat.le_of_ble_eq_true rfl, Nat.le_of_ble_eq_true rfl⟩ ⟨Nat.le_of_ble_eq_true rfl, Nat.le_of_ble_eq_true rfl⟩ dX4_transact_75) rfl rfl rfl rfl ?_
    rcases (Decidable.em (r_22.1 = 0 ∨ r_22.1 = 1)).symm with qg_23 | qg_23
    · exact absurd hf (by rw [fX4_transact, if_pos qg_1, if_pos qg_2, wl_eq hw_3, if_pos qg_4, wl_eq hw_5, wl_eq hw_6, wl_eq hw_9, if_neg qc_10, hq_22, Option.bind_some, if_neg qg_23]; exact nofun)
    refine x_putZ (pc2 := 81) (f := 408) C (by assumption) kf_4_78 dX4_transact_78 rfl rfl rfl qg_23 rfl rfl ?_
    obtain ⟨Ω_24, hw_24⟩ : ∃ z, z = uI r_22.2 408 0 0 r_22.1 := ⟨_, rfl⟩
    refine x_om hw_24 ?_
    refine x_goto (tgt := 160) C dX4_transact_81 (by decide) ?_
    refine x_aload_n (pc2 := 161) C dX4_transact_160 2 rfl rfl rfl ?_
    refine x_aload_n (pc2 := 162) C dX4_transact_161 3 rfl rfl rfl ?_
    refine x_iload_n (pc2 := 163) C dX4_transact_162 1 rfl rfl rfl ?_
    refine x_aload_n (pc2 := 164) C dX4_transact_163 3 rfl rfl rfl ?_
    refine x_getI (pc2 := 167) (f := 706) C (by assumption) kf_4_60 dX4_transact_164 rfl rfl rfl ?_
    refine x_aload_n (pc2 := 168) C dX4_transact_167 0 rfl rfl rfl ?_
    refine x_getI (pc2 := 171) (f := 310) C (by assumption) kf_4_70 dX4_transact_168 rfl rfl rfl ?_
    refine x_isub (pc2 := 172) C dX4_transact_171 rfl ?_
    rcases hq_25 : fX4_settleGas Ω_24 b sg i1 (fX7_priceAt Ω i1 (xI Ω 5 b 0)) ((xI Ω_24 706 i1 0) - (xI Ω_24 310 ((0 : Int32).toNatClampNeg) 0)) with _ | r_25
    · exact absurd hf (by rw [fX4_transact, if_pos qg_1, if_pos qg_2, wl_eq hw_3, if_pos qg_4, wl_eq hw_5, wl_eq hw_6, wl_eq hw_9, if_neg qc_10, hq_22, Option.bind_some, if_pos qg_23, wl_eq hw_24, hq_25, Option.bind_none]; exact nofun)
    refine x_ret (rest := []) (st2 := []) (pc2 := 175) (cu2 := 0) (su2 := 0) (x_cV C (by assumption) (Nat.le_of_ble_eq_true rfl) kmX4_settleGas rfl kk_4_102 (tX4_settleGas hok (by assumption) (by assumption) (by assumption) (by assumption)  hq_25) rfl rfl (Nat.le_of_ble_eq_true rfl) ⟨Nat.le_of_ble_eq_true rfl, Nat.le_of_ble_eq_true rfl⟩ ⟨Nat.le_of_ble_eq_true rfl, Nat.le_of_ble_eq_true rfl⟩ dX4_transact_172) rfl rfl rfl rfl ?_
    rw [fX4_transact, if_pos qg_1, if_pos qg_2, wl_eq hw_3, if_pos qg_4, wl_eq hw_5, wl_eq hw_6, wl_eq hw_9, if_neg qc_10, hq_22, Option.bind_some, if_pos qg_23, wl_eq hw_24, hq_25, Option.bind_some] at hf
    cases hf
    exact x_vreturn C dX4_transact_175 rfl (Nat.le_of_ble_eq_true rfl) (Nat.le_of_ble_eq_true rfl) rfl rfl
