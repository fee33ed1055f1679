def fX0_countEvents_l (Ω : XO) (i : Nat) (x1 : Int32) : Nat → Nat → Int32 → Int32
  | 0, _, _ => 0
  | n + 1, k, y2 => (if (xI Ω 10 i 0) ≤ (nI k) then y2 else (if (fX0_topicIn Ω i (nI k)) = x1 then fX0_countEvents_l Ω i x1 n (k + 1) (y2 + 1) else fX0_countEvents_l Ω i x1 n (k + 1) y2))
def fX0_countEvents (Ω : XO) (i : Nat) (x1 : Int32) : Int32 := fX0_countEvents_l Ω i x1 ((xI Ω 10 i 0).toNatClampNeg + 1) 0 (0 : Int32)
def fX1_headBlock_l (Ω : XO) (i : Nat) : Nat → Nat → Nat → Nat
  | 0, _, _ => 0
  | n + 1, k, y2 => (if (nI (alen 2002)) ≤ (nI k) then y2 else (if (fX0_comesFrom Ω (24 * i + (nI k).toNatClampNeg) (fX1_lastFinalBlock Ω i)) = 0 then fX1_headBlock_l Ω i n (k + 1) y2 else (if (xI Ω 4 (24 * i + (nI k).toNatClampNeg) 0) ≤ (xI Ω 4 y2 0) then fX1_headBlock_l Ω i n (k + 1) y2 else fX1_headBlock_l Ω i n (k + 1) (24 * i + (nI k).toNatClampNeg))))
def fX1_headBlock (Ω : XO) (i : Nat) : Nat := fX1_headBlock_l Ω i ((nI (alen 2002)).toNatClampNeg + 1) 0 (fX1_lastFinalBlock Ω i)
set_option maxRecDepth 20000 in
theorem lX1_headBlock {G : XG} (hok : XK G) {B : XB} {i : Nat} {Ω : XO} (hd0 : dm G 1 i) (hq3 : dm G 2002 i) (hq1 : dm G 0 (fX1_lastFinalBlock Ω i))   : ∀ (n k : Nat) (y2 : Nat), dm G 0 y2 → (nI (alen 2002)).toNatClampNeg + 1 ≤ k + n → k ≤ (nI (alen 2002)).toNatClampNeg → XC G B cX1_headBlock RX1 (RM 2 0) 7 ((some (FieldType.object "ForkBridge$Block"))) (.inl (some (.ref (ad G 0 (fX1_headBlock_l Ω i n k y2))))) Ω → XW G B 7 19 [(5, .int (nI k)), (4, .int (nI (alen 2002))), (3, .ref (ad G 2002 (i))), (2, .ref (ad G 0 (y2))), (1, .ref (ad G 0 (fX1_lastFinalBlock Ω i))), (0, .ref (ad G 1 (i)))] [] Ω 0 0 := by
  intro n
  induction n with
  | zero => intro k y2 hv2 h1 h2; exact absurd h1 (by omega)
  | succ n ih =>
    intro k y2 hv2 h1 hk C
    refine x_iload (pc2 := 21) C dX1_headBlock_19 0 rfl rfl ?_
    refine x_iload (pc2 := 23) C dX1_headBlock_21 1 rfl rfl ?_
    refine x_icmp_ge (tgt := 62) (pc2 := 26) C dX1_headBlock_23 (by decide) rfl (fun qc_1 => ?_) (fun qc_1 => ?_)
    · refine x_aload_n (pc2 := 63) C dX1_headBlock_62 3 rfl rfl rfl ?_
      exact x_areturn C dX1_headBlock_63 rfl (Or.inr ⟨_, rfl⟩) (Nat.le_of_ble_eq_true rfl) (Nat.le_of_ble_eq_true rfl) (by rw [fX1_headBlock_l, if_pos qc_1] <;> rfl) rfl
    · refine x_aload_n (pc2 := 27) C dX1_headBlock_26 2 rfl rfl rfl ?_
      refine x_iload (pc2 := 29) C dX1_headBlock_27 0 rfl rfl ?_
      refine x_aald (k2 := 0) (pc2 := 30) C (by assumption) dX1_headBlock_29 rfl rfl (by first | exact x_inK (by assumption) (by assumption) | exact x_in (by assumption) (by assumption) (by decide)) rfl (eli_2002 _ _) rfl (fun qd_2 => ?_)
      refine x_astore (pc2 := 32) (lv2 := [(6, _), (5, _), (4, _), (3, _), (2, _), (1, _), (0, _)]) C dX1_headBlock_30 (by decide) rfl rfl ?_
      refine x_aload (pc2 := 34) C dX1_headBlock_32 0 rfl rfl ?_
      refine x_aload_n (pc2 := 35) C dX1_headBlock_34 5 rfl rfl rfl ?_
      refine x_ret (rest := []) (st2 := [_]) (pc2 := 38) (cu2 := 0) (su2 := 0) (x_cV C (by assumption) (Nat.le_of_ble_eq_true rfl) kmX0_comesFrom rfl kk_1_55 (tX0_comesFrom hok (by assumption) (by assumption)) rfl rfl (Nat.le_of_ble_eq_true rfl) ⟨Nat.le_of_ble_eq_true rfl, Nat.le_of_ble_eq_true rfl⟩ ⟨Nat.le_of_ble_eq_true rfl, Nat.le_of_ble_eq_true rfl⟩ dX1_headBlock_35) rfl rfl rfl rfl ?_
      refine x_if_eq (tgt := 56) (pc2 := 41) C dX1_headBlock_38 (by decide) rfl (fun qc_3 => ?_) (fun qc_3 => ?_)
      · refine x_iinc (pc2 := 59) (v := nI (k + 1)) (lv2 := [(5, _), (6, _), (4, _), (3, _), (2, _), (1, _), (0, _)]) C dX1_headBlock_56 1 rfl (nI_1 _) (by decide) rfl rfl ?_
        refine x_goto (tgt := 19) C dX1_headBlock_59 (by decide) ?_
        exact x_sub (lv2 := [(5, _), (4, _), (3, _), (2, _), (1, _), (0, _)]) C [0, 2, 3, 4, 5, 6] rfl (ih (k + 1) _ (by assumption) (by show (nI (alen 2002)).toNatClampNeg + 1 ≤ k + 1 + n; have h9 := x_lt hk (by assumption); omega) (by show k + 1 ≤ (nI (alen 2002)).toNatClampNeg; have h9 := x_lt hk (by assumption); omega) (XC_to C (by rw [fX1_headBlock_l, if_neg qc_1, if_pos qc_3] <;> rfl) rfl))
      · refine x_aload (pc2 := 43) C dX1_headBlock_41 0 rfl rfl ?_
        refine x_getI (pc2 := 46) (f := 4) C (by assumption) kf_1_59 dX1_headBlock_43 rfl rfl rfl ?_
        refine x_aload_n (pc2 := 47) C dX1_headBlock_46 4 rfl rfl rfl ?_
        refine x_getI (pc2 := 50) (f := 4) C (by assumption) kf_1_59 dX1_headBlock_47 rfl rfl rfl ?_
        refine x_icmp_le (tgt := 56) (pc2 := 53) C dX1_headBlock_50 (by decide) rfl (fun qc_4 => ?_) (fun qc_4 => ?_)
        · refine x_iinc (pc2 := 59) (v := nI (k + 1)) (lv2 := [(5, _), (6, _), (4, _), (3, _), (2, _), (1, _), (0, _)]) C dX1_headBlock_56 1 rfl (nI_1 _) (by decide) rfl rfl ?_
          refine x_goto (tgt := 19) C dX1_headBlock_59 (by decide) ?_
          exact x_sub (lv2 := [(5, _), (4, _), (3, _), (2, _), (1, _), (0, _)]) C [0, 2, 3, 4, 5, 6] rfl (ih (k + 1) _ (by assumption) (by show (nI (alen 2002)).toNatClampNeg + 1 ≤ k + 1 + n; have h9 := x_lt hk (by assumption); omega) (by show k + 1 ≤ (nI (alen 2002)).toNatClampNeg; have h9 := x_lt hk (by assumption); omega) (XC_to C (by rw [fX1_headBlock_l, if_neg qc_1, if_neg qc_3, if_pos qc_4] <;> rfl) rfl))
        · refine x_aload (pc2 := 55) C dX1_headBlock_53 0 rfl rfl ?_
          refine x_astore_n (pc2 := 56) (lv2 := [(2, _), (6, _), (5, _), (4, _), (3, _), (1, _), (0, _)]) C dX1_headBlock_55 rfl (by decide) rfl rfl ?_
          refine x_iinc (pc2 := 59) (v := nI (k + 1)) (lv2 := [(5, _), (2, _), (6, _), (4, _), (3, _), (1, _), (0, _)]) C dX1_headBlock_56 2 rfl (nI_1 _) (by decide) rfl rfl ?_
          refine x_goto (tgt := 19) C dX1_headBlock_59 (by decide) ?_
          exact x_sub (lv2 := [(5, _), (4, _), (3, _), (2, _), (1, _), (0, _)]) C [0, 3, 4, 1, 5, 6] rfl (ih (k + 1) _ (by assumption) (by show (nI (alen 2002)).toNatClampNeg + 1 ≤ k + 1 + n; have h9 := x_lt hk (by assumption); omega) (by show k + 1 ≤ (nI (alen 2002)).toNatClampNeg; have h9 := x_lt hk (by assumption); omega) (XC_to C (by rw [fX1_headBlock_l, if_neg qc_1, if_neg qc_3, if_neg qc_4] <;> rfl) rfl))
set_option maxRecDepth 20000 in
theorem tX1_headBlock {G : XG} (hok : XK G) {i : Nat} {Ω : XO} (hd0 : dm G 1 i)  : XM G yX1_headBlock cX1_headBlock 7 ((some (FieldType.object "ForkBridge$Block"))) (RM 2 0) [.ref (ad G 1 i)] Ω (.inl (some (.ref (ad G 0 (fX1_headBlock Ω i))))) Ω := by
  refine x_start (lv := [(0, .ref (ad G 1 i))]) (own := RX1) hok (by decide +kernel) rfl (Nat.le_of_ble_eq_true rfl) rfl (fun B C => ?_)
  refine x_aload_n (pc2 := 1) C dX1_headBlock_0 0 rfl rfl rfl ?_
  refine x_ret (rest := []) (st2 := [_]) (pc2 := 4) (cu2 := 0) (su2 := 0) (x_cV C (by assumption) (Nat.le_of_ble_eq_true rfl) kmX1_lastFinalBlock rfl kk_1_51 (tX1_lastFinalBlock hok (by assumption)) rfl rfl (Nat.le_of_ble_eq_true rfl) ⟨Nat.le_of_ble_eq_true rfl, Nat.le_of_ble_eq_true rfl⟩ ⟨Nat.le_of_ble_eq_true rfl, Nat.le_of_ble_eq_true rfl⟩ dX1_headBlock_1) rfl rfl rfl rfl ?_
  have qd_1 := D_lastFinalBlock hok (Ω := Ω) (by assumption)
  refine x_astore_n (pc2 := 5) (lv2 := [(1, _), (0, _)]) C dX1_headBlock_4 rfl (by decide) rfl rfl ?_
  refine x_aload_n (pc2 := 6) C dX1_headBlock_5 0 rfl rfl rfl ?_
  refine x_astore_n (pc2 := 7) (lv2 := [(2, _), (1, _), (0, _)]) C dX1_headBlock_6 rfl (by decide) rfl rfl ?_
  refine x_aload_n (pc2 := 8) C dX1_headBlock_7 2 rfl rfl rfl ?_
  refine x_getR (f := 100) (k2 := 2002) (pc2 := 11) C (by assumption) kf_1_11 dX1_headBlock_8 rfl rfl rfl (rti_i rfl) rfl (fun qd_2 => ?_)
  refine x_astore_n (pc2 := 12) (lv2 := [(3, _), (2, _), (1, _), (0, _)]) C dX1_headBlock_11 rfl (by decide) rfl rfl ?_
  refine x_aload_n (pc2 := 13) C dX1_headBlock_12 0 rfl rfl rfl ?_
  refine x_alen (pc2 := 14) C (by assumption) dX1_headBlock_13 rfl rfl rfl ?_
  refine x_istore (pc2 := 16) (lv2 := [(4, _), (3, _), (2, _), (1, _), (0, _)]) C dX1_headBlock_14 (by decide) rfl rfl ?_
  refine x_iconst (pc2 := 17) (v := 0) C dX1_headBlock_16 rfl rfl ?_
  refine x_istore (pc2 := 19) (lv2 := [(5, _), (4, _), (3, _), (2, _), (1, _), (0, _)]) C dX1_headBlock_17 (by decide) rfl rfl ?_
  exact x_sub (lv2 := [(5, _), (4, _), (3, _), (2, _), (1, _), (0, _)]) C [0, 1, 2, 3, 4, 5] rfl (lX1_headBlock hok (by assumption) (by assumption) (by assumption) ((nI (alen 2002)).toNatClampNeg + 1) 0 _ (by assumption) (by omega) (by omega) (XC_to C (by rw [fX1_headBlock] <;> rfl) rfl))
theorem D_headBlock_l {G : XG} (hok : XK G) {Ω : XO} {i : Nat} (h : dm G 1 i) : ∀ (n k y2 : Nat), 25 ≤ n + k → k ≤ 24 → dm G 0 y2 → dm G 0 (fX1_headBlock_l Ω i n k y2) := by
  intro n
  induction n with
  | zero => intro k y2 h1 h2; exact absurd h1 (by omega)
  | succ n ih =>
    intro k y2 h1 h2 hy
    rw [fX1_headBlock_l]
    have hkk : ¬ (nI (alen 2002)) ≤ nI k → k < 24 := fun q => Nat.lt_of_not_le fun q2 => q (nI_le q2 (by omega))
    by_cases q1 : (nI (alen 2002)) ≤ nI k
    · rw [if_pos q1]; exact hy
    · rw [if_neg q1]
      have hk := hkk q1
      have hd : dm G 0 (24 * i + (nI k).toNatClampNeg) := by
        rw [nI_clamp (by omega)]
        exact dm_a hok k (dm_f hok 0 h rfl rfl (rti_i rfl)) rfl hk rfl rfl
      split
      · exact ih _ _ (by omega) (by omega) hy
      · split
        · exact ih _ _ (by omega) (by omega) hy
        · exact ih _ _ (by omega) (by omega) hd
theorem D_headBlock {G : XG} (hok : XK G) {Ω : XO} {i : Nat} (h : dm G 1 i) : dm G 0 (fX1_headBlock Ω i) := D_headBlock_l hok h ((nI (alen 2002)).toNatClampNeg + 1) 0 _ (by decide) (by decide) (D_lastFinalBlock hok h)
def fX1_countWaiting_l (Ω : XO) (i : Nat) : Nat → Nat → Int32 → Int32
  | 0, _, _ => 0
  | n + 1, k, y2 => (if (nI (alen 2003)) ≤ (nI k) then y2 else (if (fX7_waitsBehind Ω (40 * i + (nI k).toNatClampNeg) (fX1_headBlock Ω i)) = 0 then fX1_countWaiting_l Ω i n (k + 1) y2 else fX1_countWaiting_l Ω i n (k + 1) (y2 + 1)))
def fX1_countWaiting (Ω : XO) (i : Nat) : Int32 := fX1_countWaiting_l Ω i ((nI (alen 2003)).toNatClampNeg + 1) 0 (0 : Int32)
set_option maxRecDepth 20000 in
theorem lX1_countWaiting {G : XG} (hok : XK G) {B : XB} {i : Nat} {Ω : XO} (hd0 : dm G 1 i) (hq3 : dm G 2003 i) (hq1 : dm G 0 (fX1_headBlock Ω i))   : ∀ (n k : Nat) (y2 : Int32), (nI (alen 2003)).toNatClampNeg + 1 ≤ k + n → k ≤ (nI (alen 2003)).toNatClampNeg → XC G B cX1_countWaiting RX1 (RM 3 0) 7 ((some FieldType.int)) (.inl (some (.int (fX1_countWaiting_l Ω i n k y2)))) Ω → XW G B 7 19 [(5, .int (nI k)), (4, .int (nI (alen 2003))), (3, .ref (ad G 2003 (i))), (2, .int (y2)), (1, .ref (ad G 0 (fX1_headBlock Ω i))), (0, .ref (ad G 1 (i)))] [] Ω 0 0 := by
  intro n
  induction n with
  | zero => intro k y2 h1 h2; exact absurd h1 (by omega)
  | succ n ih =>
    intro k y2 h1 hk C
    refine x_iload (pc2 := 21) C dX1_countWaiting_19 0 rfl rfl ?_
    refine x_iload (pc2 := 23) C dX1_countWaiting_21 1 rfl rfl ?_
    refine x_icmp_ge (tgt := 50) (pc2 := 26) C dX1_countWaiting_23 (by decide) rfl (fun qc_1 => ?_) (fun qc_1 => ?_)
    · refine x_iload_n (pc2 := 51) C dX1_countWaiting_50 3 rfl rfl rfl ?_
      exact x_ireturn C dX1_countWaiting_51 rfl (Nat.le_of_ble_eq_true rfl) (Nat.le_of_ble_eq_true rfl) (by rw [fX1_countWaiting_l, if_pos qc_1] <;> rfl) rfl
    · refine x_aload_n (pc2 := 27) C dX1_countWaiting_26 2 rfl rfl rfl ?_
      refine x_iload (pc2 := 29) C dX1_countWaiting_27 0 rfl rfl ?_
      refine x_aald (k2 := 7) (pc2 := 30) C (by assumption) dX1_countWaiting_29 rfl rfl (by first | exact x_inK (by assumption) (by assumption) | exact x_in (by assumption) (by assumption) (by decide)) rfl (eli_2003 _ _) rfl (fun qd_2 => ?_)
      refine x_astore (pc2 := 32) (lv2 := [(6, _), (5, _), (4, _), (3, _), (2, _), (1, _), (0, _)]) C dX1_countWaiting_30 (by decide) rfl rfl ?_
      refine x_aload (pc2 := 34) C dX1_countWaiting_32 0 rfl rfl ?_
      refine x_aload_n (pc2 := 35) C dX1_countWaiting_34 5 rfl rfl rfl ?_
      refine x_ret (rest := []) (st2 := [_]) (pc2 := 38) (cu2 := 0) (su2 := 0) (x_cV C (by assumption) (Nat.le_of_ble_eq_true rfl) kmX7_waitsBehind rfl kk_1_65 (tX7_waitsBehind hok (by assumption) (by assumption)) rfl rfl (Nat.le_of_ble_eq_true rfl) ⟨Nat.le_of_ble_eq_true rfl, Nat.le_of_ble_eq_true rfl⟩ ⟨Nat.le_of_ble_eq_true rfl, Nat.le_of_ble_eq_true rfl⟩ dX1_countWaiting_35) rfl rfl rfl rfl ?_
      refine x_if_eq (tgt := 44) (pc2 := 41) C dX1_countWaiting_38 (by decide) rfl (fun qc_3 => ?_) (fun qc_3 => ?_)
      · refine x_iinc (pc2 := 47) (v := nI (k + 1)) (lv2 := [(5, _), (6, _), (4, _), (3, _), (2, _), (1, _), (0, _)]) C dX1_countWaiting_44 1 rfl (nI_1 _) (by decide) rfl rfl ?_
        refine x_goto (tgt := 19) C dX1_countWaiting_47 (by decide) ?_
        exact x_sub (lv2 := [(5, _), (4, _), (3, _), (2, _), (1, _), (0, _)]) C [0, 2, 3, 4, 5, 6] rfl (ih (k + 1) _ (by show (nI (alen 2003)).toNatClampNeg + 1 ≤ k + 1 + n; have h9 := x_lt hk (by assumption); omega) (by show k + 1 ≤ (nI (alen 2003)).toNatClampNeg; have h9 := x_lt hk (by assumption); omega) (XC_to C (by rw [fX1_countWaiting_l, if_neg qc_1, if_pos qc_3] <;> rfl) rfl))
      · refine x_iinc (pc2 := 44) (v := y2 + 1) (lv2 := [(2, _), (6, _), (5, _), (4, _), (3, _), (1, _), (0, _)]) C dX1_countWaiting_41 4 rfl rfl (by decide) rfl rfl ?_
        refine x_iinc (pc2 := 47) (v := nI (k + 1)) (lv2 := [(5, _), (2, _), (6, _), (4, _), (3, _), (1, _), (0, _)]) C dX1_countWaiting_44 2 rfl (nI_1 _) (by decide) rfl rfl ?_
        refine x_goto (tgt := 19) C dX1_countWaiting_47 (by decide) ?_
        exact x_sub (lv2 := [(5, _), (4, _), (3, _), (2, _), (1, _), (0, _)]) C [0, 3, 4, 1, 5, 6] rfl (ih (k + 1) _ (by show (nI (alen 2003)).toNatClampNeg + 1 ≤ k + 1 + n; have h9 := x_lt hk (by assumption); omega) (by show k + 1 ≤ (nI (alen 2003)).toNatClampNeg; have h9 := x_lt hk (by assumption); omega) (XC_to C (by rw [fX1_countWaiting_l, if_neg qc_1, if_neg qc_3] <;> rfl) rfl))
set_option maxRecDepth 20000 in
theorem tX1_countWaiting {G : XG} (hok : XK G) {i : Nat} {Ω : XO} (hd0 : dm G 1 i)  : XM G yX1_countWaiting cX1_countWaiting 7 ((some FieldType.int)) (RM 3 0) [.ref (ad G 1 i)] Ω (.inl (some (.int (fX1_countWaiting Ω i)))) Ω := by
  refine x_start (lv := [(0, .ref (ad G 1 i))]) (own := RX1) hok (by decide +kernel) rfl (Nat.le_of_ble_eq_true rfl) rfl (fun B C => ?_)
  refine x_aload_n (pc2 := 1) C dX1_countWaiting_0 0 rfl rfl rfl ?_
  refine x_ret (rest := []) (st2 := [_]) (pc2 := 4) (cu2 := 0) (su2 := 0) (x_cV C (by assumption) (Nat.le_of_ble_eq_true rfl) kmX1_headBlock rfl kk_1_62 (tX1_headBlock hok (by assumption)) rfl rfl (Nat.le_of_ble_eq_true rfl) ⟨Nat.le_of_ble_eq_true rfl, Nat.le_of_ble_eq_true rfl⟩ ⟨Nat.le_of_ble_eq_true rfl, Nat.le_of_ble_eq_true rfl⟩ dX1_countWaiting_1) rfl rfl rfl rfl ?_
  have qd_1 := D_headBlock hok (Ω := Ω) (by assumption)
  refine x_astore_n (pc2 := 5) (lv2 := [(1, _), (0, _)]) C dX1_countWaiting_4 rfl (by decide) rfl rfl ?_
  refine x_iconst (pc2 := 6) (v := 0) C dX1_countWaiting_5 rfl rfl ?_
  refine x_istore_n (pc2 := 7) (lv2 := [(2, _), (1, _), (0, _)]) C dX1_countWaiting_6 rfl (by decide) rfl rfl ?_
  refine x_aload_n (pc2 := 8) C dX1_countWaiting_7 2 rfl rfl rfl ?_
  refine x_getR (f := 102) (k2 := 2003) (pc2 := 11) C (by assumption) kf_1_23 dX1_countWaiting_8 rfl rfl rfl (rti_i rfl) rfl (fun qd_2 => ?_)
  refine x_astore_n (pc2 := 12) (lv2 := [(3, _), (2, _), (1, _), (0, _)]) C dX1_countWaiting_11 rfl (by decide) rfl rfl ?_
  refine x_aload_n (pc2 := 13) C dX1_countWaiting_12 0 rfl rfl rfl ?_
  refine x_alen (pc2 := 14) C (by assumption) dX1_countWaiting_13 rfl rfl rfl ?_
  refine x_istore (pc2 := 16) (lv2 := [(4, _), (3, _), (2, _), (1, _), (0, _)]) C dX1_countWaiting_14 (by decide) rfl rfl ?_
  refine x_iconst (pc2 := 17) (v := 0) C dX1_countWaiting_16 rfl rfl ?_
  refine x_istore (pc2 := 19) (lv2 := [(5, _), (4, _), (3, _), (2, _), (1, _), (0, _)]) C dX1_countWaiting_17 (by decide) rfl rfl ?_
  exact x_sub (lv2 := [(5, _), (4, _), (3, _), (2, _), (1, _), (0, _)]) C [0, 1, 2, 3, 4, 5] rfl (lX1_countWaiting hok (by assumption) (by assumption) (by assumption) ((nI (alen 2003)).toNatClampNeg + 1) 0 _ (by omega) (by omega) (XC_to C (by rw [fX1_countWaiting] <;> rfl) rfl))

def fX1_dropRivals_l  (i : Nat) (i1 : Nat) (i2 : Nat) : Nat → Nat → XO → XO
  | 0, _, Ω => Ω
  | n + 1, k, Ω => (if (nI (alen 2003)) ≤ (nI k) then Ω else (if (fX7_waitsBehind Ω (40 * i + (nI k).toNatClampNeg) i2) = 0 then fX1_dropRivals_l i i1 i2 n (k + 1) Ω else (if (fX7_rivals Ω (40 * i + (nI k).toNatClampNeg) i1) = 0 then fX1_dropRivals_l i i1 i2 n (k + 1) Ω else fX1_dropRivals_l i i1 i2 n (k + 1) (uI Ω 712 (40 * i + (nI k).toNatClampNeg) 0 (0 : Int32)))))
def fX1_dropRivals (Ω : XO) (i : Nat) (i1 : Nat) (i2 : Nat) : XO := fX1_dropRivals_l i i1 i2 ((nI (alen 2003)).toNatClampNeg + 1) 0 Ω
set_option maxRecDepth 20000 in
theorem lX1_dropRivals {G : XG} (hok : XK G) {B : XB} {i : Nat} {i1 : Nat} {i2 : Nat} (hd0 : dm G 1 i) (hd1 : dm G 7 i1) (hd2 : dm G 0 i2) (hq3 : dm G 2003 i)   : ∀ (n k : Nat) (Ω : XO), (nI (alen 2003)).toNatClampNeg + 1 ≤ k + n → k ≤ (nI (alen 2003)).toNatClampNeg → XC G B cX1_dropRivals RX1 (RM 2 0) 7 none (.inl none) (fX1_dropRivals_l i i1 i2 n k Ω) → XW G B 7 12 [(5, .int (nI k)), (4, .int (nI (alen 2003))), (3, .ref (ad G 2003 (i))), (0, .ref (ad G 1 (i))), (1, .ref (ad G 7 (i1))), (2, .ref (ad G 0 (i2)))] [] Ω 0 0 := by
  intro n
  induction n with
  | zero => intro k Ω h1 h2; exact absurd h1 (by omega)
  | succ n ih =>
    intro k Ω h1 hk C
    refine x_iload (pc2 := 14) C dX1_dropRivals_12 0 rfl rfl ?_
    refine x_iload (pc2 := 16) C dX1_dropRivals_14 1 rfl rfl ?_
    refine x_icmp_ge (tgt := 55) (pc2 := 19) C dX1_dropRivals_16 (by decide) rfl (fun qc_1 => ?_) (fun qc_1 => ?_)
    · exact x_vreturn C dX1_dropRivals_55 rfl (Nat.le_of_ble_eq_true rfl) (Nat.le_of_ble_eq_true rfl) rfl (by rw [fX1_dropRivals_l, if_pos qc_1] <;> rfl)
    · refine x_aload_n (pc2 := 20) C dX1_dropRivals_19 2 rfl rfl rfl ?_
      refine x_iload (pc2 := 22) C dX1_dropRivals_20 0 rfl rfl ?_
      refine x_aald (k2 := 7) (pc2 := 23) C (by assumption) dX1_dropRivals_22 rfl rfl (by first | exact x_inK (by assumption) (by assumption) | exact x_in (by assumption) (by assumption) (by decide)) rfl (eli_2003 _ _) rfl (fun qd_2 => ?_)
      refine x_astore (pc2 := 25) (lv2 := [(6, _), (5, _), (4, _), (3, _), (0, _), (1, _), (2, _)]) C dX1_dropRivals_23 (by decide) rfl rfl ?_
      refine x_aload (pc2 := 27) C dX1_dropRivals_25 0 rfl rfl ?_
      refine x_aload_n (pc2 := 28) C dX1_dropRivals_27 6 rfl rfl rfl ?_
      refine x_ret (rest := []) (st2 := [_]) (pc2 := 31) (cu2 := 0) (su2 := 0) (x_cV C (by assumption) (Nat.le_of_ble_eq_true rfl) kmX7_waitsBehind rfl kk_1_65 (tX7_waitsBehind hok (by assumption) (by assumption)) rfl rfl (Nat.le_of_ble_eq_true rfl) ⟨Nat.le_of_ble_eq_true rfl, Nat.le_of_ble_eq_true rfl⟩ ⟨Nat.le_of_ble_eq_true rfl, Nat.le_of_ble_eq_true rfl⟩ dX1_dropRivals_28) rfl rfl rfl rfl ?_
      refine x_if_eq (tgt := 49) (pc2 := 34) C dX1_dropRivals_31 (by decide) rfl (fun qc_3 => ?_) (fun qc_3 => ?_)
      · refine x_iinc (pc2 := 52) (v := nI (k + 1)) (lv2 := [(5, _), (6, _), (4, _), (3, _), (0, _), (1, _), (2, _)]) C dX1_dropRivals_49 1 rfl (nI_1 _) (by decide) rfl rfl ?_
        refine x_goto (tgt := 12) C dX1_dropRivals_52 (by decide) ?_
        exact x_sub (lv2 := [(5, _), (4, _), (3, _), (0, _), (1, _), (2, _)]) C [0, 2, 3, 4, 5, 6] rfl (ih (k + 1) _ (by show (nI (alen 2003)).toNatClampNeg + 1 ≤ k + 1 + n; have h9 := x_lt hk (by assumption); omega) (by show k + 1 ≤ (nI (alen 2003)).toNatClampNeg; have h9 := x_lt hk (by assumption); omega) (XC_to C rfl (by rw [fX1_dropRivals_l, if_neg qc_1, if_pos qc_3] <;> rfl)))
      · refine x_aload (pc2 := 36) C dX1_dropRivals_34 0 rfl rfl ?_
        refine x_aload_n (pc2 := 37) C dX1_dropRivals_36 5 rfl rfl rfl ?_
        refine x_ret (rest := []) (st2 := [_]) (pc2 := 40) (cu2 := 0) (su2 := 0) (x_cV C (by assumption) (Nat.le_of_ble_eq_true rfl) kmX7_rivals rfl kk_1_75 (tX7_rivals hok (by assumption) (by assumption)) rfl rfl (Nat.le_of_ble_eq_true rfl) ⟨Nat.le_of_ble_eq_true rfl, Nat.le_of_ble_eq_true rfl⟩ ⟨Nat.le_of_ble_eq_true rfl, Nat.le_of_ble_eq_true rfl⟩ dX1_dropRivals_37) rfl rfl rfl rfl ?_
        refine x_if_eq (tgt := 49) (pc2 := 43) C dX1_dropRivals_40 (by decide) rfl (fun qc_4 => ?_) (fun qc_4 => ?_)
        · refine x_iinc (pc2 := 52) (v := nI (k + 1)) (lv2 := [(5, _), (6, _), (4, _), (3, _), (0, _), (1, _), (2, _)]) C dX1_dropRivals_49 1 rfl (nI_1 _) (by decide) rfl rfl ?_
          refine x_goto (tgt := 12) C dX1_dropRivals_52 (by decide) ?_
          exact x_sub (lv2 := [(5, _), (4, _), (3, _), (0, _), (1, _), (2, _)]) C [0, 2, 3, 4, 5, 6] rfl (ih (k + 1) _ (by show (nI (alen 2003)).toNatClampNeg + 1 ≤ k + 1 + n; have h9 := x_lt hk (by assumption); omega) (by show k + 1 ≤ (nI (alen 2003)).toNatClampNeg; have h9 := x_lt hk (by assumption); omega) (XC_to C rfl (by rw [fX1_dropRivals_l, if_neg qc_1, if_neg qc_3, if_pos qc_4] <;> rfl)))
        · refine x_aload (pc2 := 45) C dX1_dropRivals_43 0 rfl rfl ?_
          refine x_iconst (pc2 := 46) (v := 0) C dX1_dropRivals_45 rfl rfl ?_
          refine x_putZ (pc2 := 49) (f := 712) C (by assumption) kf_1_94 dX1_dropRivals_46 rfl rfl rfl (by first | exact Or.inl rfl | exact Or.inr rfl) rfl rfl ?_
          refine x_iinc (pc2 := 52) (v := nI (k + 1)) (lv2 := [(5, _), (6, _), (4, _), (3, _), (0, _), (1, _), (2, _)]) C dX1_dropRivals_49 1 rfl (nI_1 _) (by decide) rfl rfl ?_
          refine x_goto (tgt := 12) C dX1_dropRivals_52 (by decide) ?_
          exact x_sub (lv2 := [(5, _), (4, _), (3, _), (0, _), (1, _), (2, _)]) C [0, 2, 3, 4, 5, 6] rfl (ih (k + 1) _ (by show (nI (alen 2003)).toNatClampNeg + 1 ≤ k + 1 + n; have h9 := x_lt hk (by assumption); omega) (by show k + 1 ≤ (nI (alen 2003)).toNatClampNeg; have h9 := x_lt hk (by assumption); omega) (XC_to C rfl (by rw [fX1_dropRivals_l, if_neg qc_1, if_neg qc_3, if_neg qc_4] <;> rfl)))
set_option maxRecDepth 20000 in
theorem tX1_dropRivals {G : XG} (hok : XK G) {i : Nat} {i1 : Nat} {i2 : Nat} {Ω : XO} (hd0 : dm G 1 i) (hd1 : dm G 7 i1) (hd2 : dm G 0 i2)  : XM G yX1_dropRivals cX1_dropRivals 7 none (RM 2 0) [.ref (ad G 1 i), .ref (ad G 7 i1), .ref (ad G 0 i2)] Ω (.inl none) (fX1_dropRivals Ω i i1 i2) := by
  refine x_start (lv := [(0, .ref (ad G 1 i)), (1, .ref (ad G 7 i1)), (2, .ref (ad G 0 i2))]) (own := RX1) hok (by decide +kernel) rfl (Nat.le_of_ble_eq_true rfl) rfl (fun B C => ?_)
  refine x_aload_n (pc2 := 1) C dX1_dropRivals_0 0 rfl rfl rfl ?_
  refine x_getR (f := 102) (k2 := 2003) (pc2 := 4) C (by assumption) kf_1_23 dX1_dropRivals_1 rfl rfl rfl (rti_i rfl) rfl (fun qd_1 => ?_)
  refine x_astore_n (pc2 := 5) (lv2 := [(3, _), (0, _), (1, _), (2, _)]) C dX1_dropRivals_4 rfl (by decide) rfl rfl ?_
  refine x_aload_n (pc2 := 6) C dX1_dropRivals_5 0 rfl rfl rfl ?_
  refine x_alen (pc2 := 7) C (by assumption) dX1_dropRivals_6 rfl rfl rfl ?_
  refine x_istore (pc2 := 9) (lv2 := [(4, _), (3, _), (0, _), (1, _), (2, _)]) C dX1_dropRivals_7 (by decide) rfl rfl ?_
  refine x_iconst (pc2 := 10) (v := 0) C dX1_dropRivals_9 rfl rfl ?_
  refine x_istore (pc2 := 12) (lv2 := [(5, _), (4, _), (3, _), (0, _), (1, _), (2, _)]) C dX1_dropRivals_10 (by decide) rfl rfl ?_
  exact x_sub (lv2 := [(5, _), (4, _), (3, _), (0, _), (1, _), (2, _)]) C [0, 1, 2, 3, 4, 5] rfl (lX1_dropRivals hok (by assumption) (by assumption) (by assumption) (by assumption) ((nI (alen 2003)).toNatClampNeg + 1) 0 _ (by omega) (by omega) (XC_to C rfl (by rw [fX1_dropRivals] <;> rfl)))
theorem R_fX1_dropRivals_l (i : Nat) (i1 : Nat) (i2 : Nat) : ∀ (n k : Nat) (Ω : XO), xR (fX1_dropRivals_l i i1 i2 n k Ω) = xR Ω := by
  intro n
  induction n with
  | zero => intros; rfl
  | succ n ih =>
    intros
    rw [fX1_dropRivals_l]
    (repeat' split) <;> first | rfl | (rw [ih]; done) | (rw [ih]; rfl) | (rw [ih]; funext a b9; simp only [R_uI, R_uL, R_cI, R_sPut, R_fX0_imitate, R_fX0_enter, R_fX0_addEvent, R_fX3_take, R_fX3_push, R_fX3_reach, R_fX5_append, R_fX6_copyFrom, R_fX6_gain, R_fX6_move, R_fX6_raiseNonce, R_fX7_order, R_fX7_bid, R_fX7_nameLock, R_fX9_become, R_fX0_follow, R_fX3_save]) | (funext a b9; simp only [R_uI, R_uL, R_cI, R_sPut, R_fX0_imitate, R_fX0_enter, R_fX0_addEvent, R_fX3_take, R_fX3_push, R_fX3_reach, R_fX5_append, R_fX6_copyFrom, R_fX6_gain, R_fX6_move, R_fX6_raiseNonce, R_fX7_order, R_fX7_bid, R_fX7_nameLock, R_fX9_become, R_fX0_follow, R_fX3_save])
theorem R_fX1_dropRivals (Ω : XO) (i : Nat) (i1 : Nat) (i2 : Nat) : xR (fX1_dropRivals Ω i i1 i2) = xR Ω := by
  unfold fX1_dropRivals
  (repeat' split) <;> first | rfl | (funext a b9; simp only [R_uI, R_uL, R_cI, R_sPut, R_fX0_imitate, R_fX0_enter, R_fX0_addEvent, R_fX3_take, R_fX3_push, R_fX3_reach, R_fX5_append, R_fX6_copyFrom, R_fX6_gain, R_fX6_move, R_fX6_raiseNonce, R_fX7_order, R_fX7_bid, R_fX7_nameLock, R_fX9_become, R_fX0_follow, R_fX3_save, R_fX1_dropRivals_l])

def fX1_throwOutFor_l  (i : Nat) (i1 : Nat) (i2 : Nat) : Nat → Nat → Nat → XO → Int32 × XO
  | 0, _, _, Ω => (0, Ω)
  | n + 1, k, y3, Ω => (if (nI (alen 2003)) ≤ (nI k) then (if (xI Ω 708 y3 0) < (xI Ω 708 i1 0) then ((1 : Int32), uI Ω 712 y3 0 (0 : Int32)) else ((0 : Int32), Ω)) else (if (fX7_waitsBehind Ω (40 * i + (nI k).toNatClampNeg) i2) = 0 then fX1_throwOutFor_l i i1 i2 n (k + 1) y3 Ω else (if (xI Ω 708 y3 0) < (xI Ω 708 (40 * i + (nI k).toNatClampNeg) 0) then fX1_throwOutFor_l i i1 i2 n (k + 1) y3 Ω else fX1_throwOutFor_l i i1 i2 n (k + 1) (40 * i + (nI k).toNatClampNeg) Ω)))
def fX1_throwOutFor (Ω : XO) (i : Nat) (i1 : Nat) (i2 : Nat) : Int32 × XO := fX1_throwOutFor_l i i1 i2 ((nI (alen 2003)).toNatClampNeg + 1) 0 i1 Ω
set_option maxRecDepth 20000 in
theorem lX1_throwOutFor {G : XG} (hok : XK G) {B : XB} {i : Nat} {i1 : Nat} {i2 : Nat} (hd0 : dm G 1 i) (hd1 : dm G 7 i1) (hd2 : dm G 0 i2) (hq4 : dm G 2003 i)   : ∀ (n k : Nat) (y3 : Nat) (Ω : XO), dm G 7 y3 → (nI (alen 2003)).toNatClampNeg + 1 ≤ k + n → k ≤ (nI (alen 2003)).toNatClampNeg → XC G B cX1_throwOutFor RX1 (RM 2 0) 8 ((some FieldType.boolean)) (.inl (some (.int ((fX1_throwOutFor_l i i1 i2 n k y3 Ω).1)))) (fX1_throwOutFor_l i i1 i2 n k y3 Ω).2 → XW G B 8 16 [(6, .int (nI k)), (5, .int (nI (alen 2003))), (4, .ref (ad G 2003 (i))), (3, .ref (ad G 7 (y3))), (0, .ref (ad G 1 (i))), (1, .ref (ad G 7 (i1))), (2, .ref (ad G 0 (i2)))] [] Ω 0 0 := by
  intro n
  induction n with
  | zero => intro k y3 Ω hv3 h1 h2; exact absurd h1 (by omega)
  | succ n ih =>
    intro k y3 Ω hv3 h1 hk C
    refine x_iload (pc2 := 18) C dX1_throwOutFor_16 0 rfl rfl ?_
    refine x_iload (pc2 := 20) C dX1_throwOutFor_18 1 rfl rfl ?_
    refine x_icmp_ge (tgt := 60) (pc2 := 23) C dX1_throwOutFor_20 (by decide) rfl (fun qc_1 => ?_) (fun qc_1 => ?_)
    · refine x_aload_n (pc2 := 61) C dX1_throwOutFor_60 3 rfl rfl rfl ?_
      refine x_getI (pc2 := 64) (f := 708) C (by assumption) kf_1_101 dX1_throwOutFor_61 rfl rfl rfl ?_
      refine x_aload_n (pc2 := 65) C dX1_throwOutFor_64 5 rfl rfl rfl ?_
      refine x_getI (pc2 := 68) (f := 708) C (by assumption) kf_1_101 dX1_throwOutFor_65 rfl rfl rfl ?_
      refine x_icmp_lt (tgt := 73) (pc2 := 71) C dX1_throwOutFor_68 (by decide) rfl (fun qc_2 => ?_) (fun qc_2 => ?_)
      · refine x_aload_n (pc2 := 74) C dX1_throwOutFor_73 3 rfl rfl rfl ?_
        refine x_iconst (pc2 := 75) (v := 0) C dX1_throwOutFor_74 rfl rfl ?_
        refine x_putZ (pc2 := 78) (f := 712) C (by assumption) kf_1_94 dX1_throwOutFor_75 rfl rfl rfl (by first | exact Or.inl rfl | exact Or.inr rfl) rfl rfl ?_
        refine x_iconst (pc2 := 79) (v := 1) C dX1_throwOutFor_78 rfl rfl ?_
        exact x_zreturn C dX1_throwOutFor_79 rfl (by first | exact Or.inl rfl | exact Or.inr rfl) (Nat.le_of_ble_eq_true rfl) (Nat.le_of_ble_eq_true rfl) (by rw [fX1_throwOutFor_l, if_pos qc_1, if_pos qc_2] <;> rfl) (by rw [fX1_throwOutFor_l, if_pos qc_1, if_pos qc_2] <;> rfl)
      · refine x_iconst (pc2 := 72) (v := 0) C dX1_throwOutFor_71 rfl rfl ?_
        exact x_zreturn C dX1_throwOutFor_72 rfl (by first | exact Or.inl rfl | exact Or.inr rfl) (Nat.le_of_ble_eq_true rfl) (Nat.le_of_ble_eq_true rfl) (by rw [fX1_throwOutFor_l, if_pos qc_1, if_neg qc_2] <;> rfl) (by rw [fX1_throwOutFor_l, if_pos qc_1, if_neg qc_2] <;> rfl)
    · refine x_aload (pc2 := 25) C dX1_throwOutFor_23 2 rfl rfl ?_
      refine x_iload (pc2 := 27) C dX1_throwOutFor_25 0 rfl rfl ?_
      refine x_aald (k2 := 7) (pc2 := 28) C (by assumption) dX1_throwOutFor_27 rfl rfl (by first | exact x_inK (by assumption) (by assumption) | exact x_in (by assumption) (by assumption) (by decide)) rfl (eli_2003 _ _) rfl (fun qd_3 => ?_)
      refine x_astore (pc2 := 30) (lv2 := [(7, _), (6, _), (5, _), (4, _), (3, _), (0, _), (1, _), (2, _)]) C dX1_throwOutFor_28 (by decide) rfl rfl ?_
      refine x_aload (pc2 := 32) C dX1_throwOutFor_30 0 rfl rfl ?_
      refine x_aload_n (pc2 := 33) C dX1_throwOutFor_32 7 rfl rfl rfl ?_
      refine x_ret (rest := []) (st2 := [_]) (pc2 := 36) (cu2 := 0) (su2 := 0) (x_cV C (by assumption) (Nat.le_of_ble_eq_true rfl) kmX7_waitsBehind rfl kk_1_65 (tX7_waitsBehind hok (by assumption) (by assumption)) rfl rfl (Nat.le_of_ble_eq_true rfl) ⟨Nat.le_of_ble_eq_true rfl, Nat.le_of_ble_eq_true rfl⟩ ⟨Nat.le_of_ble_eq_true rfl, Nat.le_of_ble_eq_true rfl⟩ dX1_throwOutFor_33) rfl rfl rfl rfl ?_
      refine x_if_eq (tgt := 54) (pc2 := 39) C dX1_throwOutFor_36 (by decide) rfl (fun qc_4 => ?_) (fun qc_4 => ?_)
      · refine x_iinc (pc2 := 57) (v := nI (k + 1)) (lv2 := [(6, _), (7, _), (5, _), (4, _), (3, _), (0, _), (1, _), (2, _)]) C dX1_throwOutFor_54 1 rfl (nI_1 _) (by decide) rfl rfl ?_
        refine x_goto (tgt := 16) C dX1_throwOutFor_57 (by decide) ?_
        exact x_sub (lv2 := [(6, _), (5, _), (4, _), (3, _), (0, _), (1, _), (2, _)]) C [0, 2, 3, 4, 5, 6, 7] rfl (ih (k + 1) _ _ (by assumption) (by show (nI (alen 2003)).toNatClampNeg + 1 ≤ k + 1 + n; have h9 := x_lt hk (by assumption); omega) (by show k + 1 ≤ (nI (alen 2003)).toNatClampNeg; have h9 := x_lt hk (by assumption); omega) (XC_to C (by rw [fX1_throwOutFor_l, if_neg qc_1, if_pos qc_4] <;> rfl) (by rw [fX1_throwOutFor_l, if_neg qc_1, if_pos qc_4] <;> rfl)))
      · refine x_aload (pc2 := 41) C dX1_throwOutFor_39 0 rfl rfl ?_
        refine x_getI (pc2 := 44) (f := 708) C (by assumption) kf_1_101 dX1_throwOutFor_41 rfl rfl rfl ?_
        refine x_aload_n (pc2 := 45) C dX1_throwOutFor_44 4 rfl rfl rfl ?_
        refine x_getI (pc2 := 48) (f := 708) C (by assumption) kf_1_101 dX1_throwOutFor_45 rfl rfl rfl ?_
        refine x_icmp_gt (tgt := 54) (pc2 := 51) C dX1_throwOutFor_48 (by decide) rfl (fun qc_5 => ?_) (fun qc_5 => ?_)
        · refine x_iinc (pc2 := 57) (v := nI (k + 1)) (lv2 := [(6, _), (7, _), (5, _), (4, _), (3, _), (0, _), (1, _), (2, _)]) C dX1_throwOutFor_54 1 rfl (nI_1 _) (by decide) rfl rfl ?_
          refine x_goto (tgt := 16) C dX1_throwOutFor_57 (by decide) ?_
          exact x_sub (lv2 := [(6, _), (5, _), (4, _), (3, _), (0, _), (1, _), (2, _)]) C [0, 2, 3, 4, 5, 6, 7] rfl (ih (k + 1) _ _ (by assumption) (by show (nI (alen 2003)).toNatClampNeg + 1 ≤ k + 1 + n; have h9 := x_lt hk (by assumption); omega) (by show k + 1 ≤ (nI (alen 2003)).toNatClampNeg; have h9 := x_lt hk (by assumption); omega) (XC_to C (by rw [fX1_throwOutFor_l, if_neg qc_1, if_neg qc_4, if_pos qc_5] <;> rfl) (by rw [fX1_throwOutFor_l, if_neg qc_1, if_neg qc_4, if_pos qc_5] <;> rfl)))
        · refine x_aload (pc2 := 53) C dX1_throwOutFor_51 0 rfl rfl ?_
          refine x_astore_n (pc2 := 54) (lv2 := [(3, _), (7, _), (6, _), (5, _), (4, _), (0, _), (1, _), (2, _)]) C dX1_throwOutFor_53 rfl (by decide) rfl rfl ?_
          refine x_iinc (pc2 := 57) (v := nI (k + 1)) (lv2 := [(6, _), (3, _), (7, _), (5, _), (4, _), (0, _), (1, _), (2, _)]) C dX1_throwOutFor_54 2 rfl (nI_1 _) (by decide) rfl rfl ?_
          refine x_goto (tgt := 16) C dX1_throwOutFor_57 (by decide) ?_
          exact x_sub (lv2 := [(6, _), (5, _), (4, _), (3, _), (0, _), (1, _), (2, _)]) C [0, 3, 4, 1, 5, 6, 7] rfl (ih (k + 1) _ _ (by assumption) (by show (nI (alen 2003)).toNatClampNeg + 1 ≤ k + 1 + n; have h9 := x_lt hk (by assumption); omega) (by show k + 1 ≤ (nI (alen 2003)).toNatClampNeg; have h9 := x_lt hk (by assumption); omega) (XC_to C (by rw [fX1_throwOutFor_l, if_neg qc_1, if_neg qc_4, if_neg qc_5] <;> rfl) (by rw [fX1_throwOutFor_l, if_neg qc_1, if_neg qc_4, if_neg qc_5] <;> rfl)))
set_option maxRecDepth 20000 in
theorem tX1_throwOutFor {G : XG} (hok : XK G) {i : Nat} {i1 : Nat} {i2 : Nat} {Ω : XO} (hd0 : dm G 1 i) (hd1 : dm G 7 i1) (hd2 : dm G 0 i2)  : XM G yX1_throwOutFor cX1_throwOutFor 8 ((some FieldType.boolean)) (RM 2 0) [.ref (ad G 1 i), .ref (ad G 7 i1), .ref (ad G 0 i2)] Ω (.inl (some (.int ((fX1_throwOutFor Ω i i1 i2).1)))) (fX1_throwOutFor Ω i i1 i2).2 := by
  refine x_start (lv := [(0, .ref (ad G 1 i)), (1, .ref (ad G 7 i1)), (2, .ref (ad G 0 i2))]) (own := RX1) hok (by decide +kernel) rfl (Nat.le_of_ble_eq_true rfl) rfl (fun B C => ?_)
  refine x_aload_n (pc2 := 1) C dX1_throwOutFor_0 1 rfl rfl rfl ?_
  refine x_astore_n (pc2 := 2) (lv2 := [(3, _), (0, _), (1, _), (2, _)]) C dX1_throwOutFor_1 rfl (by decide) rfl rfl ?_
  refine x_aload_n (pc2 := 3) C dX1_throwOutFor_2 1 rfl rfl rfl ?_
  refine x_getR (f := 102) (k2 := 2003) (pc2 := 6) C (by assumption) kf_1_23 dX1_throwOutFor_3 rfl rfl rfl (rti_i rfl) rfl (fun qd_1 => ?_)
  refine x_astore (pc2 := 8) (lv2 := [(4, _), (3, _), (0, _), (1, _), (2, _)]) C dX1_throwOutFor_6 (by decide) rfl rfl ?_
  refine x_aload (pc2 := 10) C dX1_throwOutFor_8 0 rfl rfl ?_
  refine x_alen (pc2 := 11) C (by assumption) dX1_throwOutFor_10 rfl rfl rfl ?_
  refine x_istore (pc2 := 13) (lv2 := [(5, _), (4, _), (3, _), (0, _), (1, _), (2, _)]) C dX1_throwOutFor_11 (by decide) rfl rfl ?_
  refine x_iconst (pc2 := 14) (v := 0) C dX1_throwOutFor_13 rfl rfl ?_
  refine x_istore (pc2 := 16) (lv2 := [(6, _), (5, _), (4, _), (3, _), (0, _), (1, _), (2, _)]) C dX1_throwOutFor_14 (by decide) rfl rfl ?_
  exact x_sub (lv2 := [(6, _), (5, _), (4, _), (3, _), (0, _), (1, _), (2, _)]) C [0, 1, 2, 3, 4, 5, 6] rfl (lX1_throwOutFor hok (by assumption) (by assumption) (by assumption) (by assumption) ((nI (alen 2003)).toNatClampNeg + 1) 0 _ _ (by assumption) (by omega) (by omega) (XC_to C (by rw [fX1_throwOutFor] <;> rfl) (by rw [fX1_throwOutFor] <;> rfl)))
theorem R_fX1_throwOutFor_l (i : Nat) (i1 : Nat) (i2 : Nat) : ∀ (n k : Nat) (y3 : Nat) (Ω : XO), xR (fX1_throwOutFor_l i i1 i2 n k y3 Ω).2 = xR Ω := by
  intro n
  induction n with
  | zero => intros; rfl
  | succ n ih =>
    intros
    rw [fX1_throwOutFor_l]
    (repeat' split) <;> first | rfl | (rw [ih]; done) | (rw [ih]; rfl) | (rw [ih]; funext a b9; simp only [R_uI, R_uL, R_cI, R_sPut, R_fX0_imitate, R_fX0_enter, R_fX0_addEvent, R_fX3_take, R_fX3_push, R_fX3_reach, R_fX5_append, R_fX6_copyFrom, R_fX6_gain, R_fX6_move, R_fX6_raiseNonce, R_fX7_order, R_fX7_bid, R_fX7_nameLock, R_fX9_become, R_fX0_follow, R_fX3_save, R_fX1_dropRivals_l, R_fX1_dropRivals]) | (funext a b9; simp only [R_uI, R_uL, R_cI, R_sPut, R_fX0_imitate, R_fX0_enter, R_fX0_addEvent, R_fX3_take, R_fX3_push, R_fX3_reach, R_fX5_append, R_fX6_copyFrom, R_fX6_gain, R_fX6_move, R_fX6_raiseNonce, R_fX7_order, R_fX7_bid, R_fX7_nameLock, R_fX9_become, R_fX0_follow, R_fX3_save, R_fX1_dropRivals_l, R_fX1_dropRivals])
theorem R_fX1_throwOutFor (Ω : XO) (i : Nat) (i1 : Nat) (i2 : Nat) : xR (fX1_throwOutFor Ω i i1 i2).2 = xR Ω := by
  unfold fX1_throwOutFor
  (repeat' split) <;> first | rfl | (funext a b9; simp only [R_uI, R_uL, R_cI, R_sPut, R_fX0_imitate, R_fX0_enter, R_fX0_addEvent, R_fX3_take, R_fX3_push, R_fX3_reach, R_fX5_append, R_fX6_copyFrom, R_fX6_gain, R_fX6_move, R_fX6_raiseNonce, R_fX7_order, R_fX7_bid, R_fX7_nameLock, R_fX9_become, R_fX0_follow, R_fX3_save, R_fX1_dropRivals_l, R_fX1_dropRivals, R_fX1_throwOutFor_l])

def fX1_search_l (Ω : XO) (i : Nat) (x1 : Int32) : Nat → Nat → Int32 → Int32 → Int32
  | 0, _, _, _ => 0
  | n + 1, k, y4, y3 => (if (nI (alen 2002)) ≤ (nI k) then ((100 : Int32) * y3) + y4 else (if (fX0_comesFrom Ω (fX1_headBlock Ω i) (24 * i + (nI k).toNatClampNeg)) = 0 then fX1_search_l Ω i x1 n (k + 1) y4 y3 else (if (fX0_hasBloomOf Ω (24 * i + (nI k).toNatClampNeg) x1) = 0 then fX1_search_l Ω i x1 n (k + 1) y4 y3 else fX1_search_l Ω i x1 n (k + 1) (y4 + (fX0_countEvents Ω (24 * i + (nI k).toNatClampNeg) x1)) (y3 + 1))))
def fX1_search (Ω : XO) (i : Nat) (x1 : Int32) : Int32 := fX1_search_l Ω i x1 ((nI (alen 2002)).toNatClampNeg + 1) 0 (0 : Int32) (0 : Int32)
def fX1_dropLower_l  (i : Nat) : Nat → Nat → Int32 → Int32 → XO → Int32 × XO
  | 0, _, _, _, Ω => (0, Ω)
  | n + 1, k, y2, y1, Ω => (if (nI (alen 2002)) ≤ (nI k) then (y2, Ω) else (if (xI Ω 16 (24 * i + (nI k).toNatClampNeg) 0) = 0 then fX1_dropLower_l i n (k + 1) y2 y1 Ω else (if y1 ≤ (xI Ω 2 (24 * i + (nI k).toNatClampNeg) 0) then fX1_dropLower_l i n (k + 1) y2 y1 Ω else (if (xI Ω 13 (24 * i + (nI k).toNatClampNeg) 0) = 0 then fX1_dropLower_l i n (k + 1) (y2 + 1) y1 (uI Ω 13 (24 * i + (nI k).toNatClampNeg) 0 (1 : Int32)) else fX1_dropLower_l i n (k + 1) y2 y1 Ω))))
def fX1_dropLower (Ω : XO) (i : Nat) : Int32 × XO := fX1_dropLower_l i ((nI (alen 2002)).toNatClampNeg + 1) 0 (0 : Int32) (xI Ω 2 (fX1_lastFinalBlock Ω i) 0) Ω
set_option maxRecDepth 20000 in
theorem lX1_dropLower {G : XG} (hok : XK G) {B : XB} {i : Nat} (hd0 : dm G 1 i) (hq3 : dm G 2002 i)   : ∀ (n k : Nat) (y2 : Int32) (y1 : Int32) (Ω : XO), (nI (alen 2002)).toNatClampNeg + 1 ≤ k + n → k ≤ (nI (alen 2002)).toNatClampNeg → XC G B cX1_dropLower RX1 (RM 2 0) 7 ((some FieldType.int)) (.inl (some (.int ((fX1_dropLower_l i n k y2 y1 Ω).1)))) (fX1_dropLower_l i n k y2 y1 Ω).2 → XW G B 7 22 [(5, .int (nI k)), (4, .int (nI (alen 2002))), (3, .ref (ad G 2002 (i))), (2, .int (y2)), (1, .int (y1)), (0, .ref (ad G 1 (i)))] [] Ω 0 0 := by
  intro n
  induction n with
  | zero => intro k y2 y1 Ω h1 h2; exact absurd h1 (by omega)
  | succ n ih =>
    intro k y2 y1 Ω h1 hk C
    refine x_iload (pc2 := 24) C dX1_dropLower_22 0 rfl rfl ?_
    refine x_iload (pc2 := 26) C dX1_dropLower_24 1 rfl rfl ?_
    refine x_icmp_ge (tgt := 75) (pc2 := 29) C dX1_dropLower_26 (by decide) rfl (fun qc_1 => ?_) (fun qc_1 => ?_)
    · refine x_iload_n (pc2 := 76) C dX1_dropLower_75 3 rfl rfl rfl ?_
      exact x_ireturn C dX1_dropLower_76 rfl (Nat.le_of_ble_eq_true rfl) (Nat.le_of_ble_eq_true rfl) (by rw [fX1_dropLower_l, if_pos qc_1] <;> rfl) (by rw [fX1_dropLower_l, if_pos qc_1] <;> rfl)
    · refine x_aload_n (pc2 := 30) C dX1_dropLower_29 2 rfl rfl rfl ?_
      refine x_iload (pc2 := 32) C dX1_dropLower_30 0 rfl rfl ?_
      refine x_aald (k2 := 0) (pc2 := 33) C (by assumption) dX1_dropLower_32 rfl rfl (by first | exact x_inK (by assumption) (by assumption) | exact x_in (by assumption) (by assumption) (by decide)) rfl (eli_2002 _ _) rfl (fun qd_2 => ?_)
      refine x_astore (pc2 := 35) (lv2 := [(6, _), (5, _), (4, _), (3, _), (2, _), (1, _), (0, _)]) C dX1_dropLower_33 (by decide) rfl rfl ?_
      refine x_aload (pc2 := 37) C dX1_dropLower_35 0 rfl rfl ?_
      refine x_getI (pc2 := 40) (f := 16) C (by assumption) kf_1_184 dX1_dropLower_37 rfl rfl rfl ?_
      refine x_if_eq (tgt := 69) (pc2 := 43) C dX1_dropLower_40 (by decide) rfl (fun qc_3 => ?_) (fun qc_3 => ?_)
      · refine x_iinc (pc2 := 72) (v := nI (k + 1)) (lv2 := [(5, _), (6, _), (4, _), (3, _), (2, _), (1, _), (0, _)]) C dX1_dropLower_69 1 rfl (nI_1 _) (by decide) rfl rfl ?_
        refine x_goto (tgt := 22) C dX1_dropLower_72 (by decide) ?_
        exact x_sub (lv2 := [(5, _), (4, _), (3, _), (2, _), (1, _), (0, _)]) C [0, 2, 3, 4, 5, 6] rfl (ih (k + 1) _ _ _ (by show (nI (alen 2002)).toNatClampNeg + 1 ≤ k + 1 + n; have h9 := x_lt hk (by assumption); omega) (by show k + 1 ≤ (nI (alen 2002)).toNatClampNeg; have h9 := x_lt hk (by assumption); omega) (XC_to C (by rw [fX1_dropLower_l, if_neg qc_1, if_pos qc_3] <;> rfl) (by rw [fX1_dropLower_l, if_neg qc_1, if_pos qc_3] <;> rfl)))
      · refine x_aload (pc2 := 45) C dX1_dropLower_43 0 rfl rfl ?_
        refine x_getI (pc2 := 48) (f := 2) C (by assumption) kf_1_149 dX1_dropLower_45 rfl rfl rfl ?_
        refine x_iload_n (pc2 := 49) C dX1_dropLower_48 5 rfl rfl rfl ?_
        refine x_icmp_ge (tgt := 69) (pc2 := 52) C dX1_dropLower_49 (by decide) rfl (fun qc_4 => ?_) (fun qc_4 => ?_)
        · refine x_iinc (pc2 := 72) (v := nI (k + 1)) (lv2 := [(5, _), (6, _), (4, _), (3, _), (2, _), (1, _), (0, _)]) C dX1_dropLower_69 1 rfl (nI_1 _) (by decide) rfl rfl ?_
          refine x_goto (tgt := 22) C dX1_dropLower_72 (by decide) ?_
          exact x_sub (lv2 := [(5, _), (4, _), (3, _), (2, _), (1, _), (0, _)]) C [0, 2, 3, 4, 5, 6] rfl (ih (k + 1) _ _ _ (by show (nI (alen 2002)).toNatClampNeg + 1 ≤ k + 1 + n; have h9 := x_lt hk (by assumption); omega) (by show k + 1 ≤ (nI (alen 2002)).toNatClampNeg; have h9 := x_lt hk (by assumption); omega) (XC_to C (by rw [fX1_dropLower_l, if_neg qc_1, if_neg qc_3, if_pos qc_4] <;> rfl) (by rw [fX1_dropLower_l, if_neg qc_1, if_neg qc_3, if_pos qc_4] <;> rfl)))
        · refine x_aload (pc2 := 54) C dX1_dropLower_52 0 rfl rfl ?_
          refine x_getI (pc2 := 57) (f := 13) C (by assumption) kf_1_187 dX1_dropLower_54 rfl rfl rfl ?_
          refine x_if_ne (tgt := 69) (pc2 := 60) C dX1_dropLower_57 (by decide) rfl (fun qc_5 => ?_) (fun qc_5 => ?_)
          · refine x_iinc (pc2 := 72) (v := nI (k + 1)) (lv2 := [(5, _), (6, _), (4, _), (3, _), (2, _), (1, _), (0, _)]) C dX1_dropLower_69 1 rfl (nI_1 _) (by decide) rfl rfl ?_
            refine x_goto (tgt := 22) C dX1_dropLower_72 (by decide) ?_
            exact x_sub (lv2 := [(5, _), (4, _), (3, _), (2, _), (1, _), (0, _)]) C [0, 2, 3, 4, 5, 6] rfl (ih (k + 1) _ _ _ (by show (nI (alen 2002)).toNatClampNeg + 1 ≤ k + 1 + n; have h9 := x_lt hk (by assumption); omega) (by show k + 1 ≤ (nI (alen 2002)).toNatClampNeg; have h9 := x_lt hk (by assumption); omega) (XC_to C (by rw [fX1_dropLower_l, if_neg qc_1, if_neg qc_3, if_neg qc_4, if_neg qc_5] <;> rfl) (by rw [fX1_dropLower_l, if_neg qc_1, if_neg qc_3, if_neg qc_4, if_neg qc_5] <;> rfl)))
          · refine x_aload (pc2 := 62) C dX1_dropLower_60 0 rfl rfl ?_
            refine x_iconst (pc2 := 63) (v := 1) C dX1_dropLower_62 rfl rfl ?_
            refine x_putZ (pc2 := 66) (f := 13) C (by assumption) kf_1_187 dX1_dropLower_63 rfl rfl rfl (by first | exact Or.inl rfl | exact Or.inr rfl) rfl rfl ?_
            refine x_iinc (pc2 := 69) (v := y2 + 1) (lv2 := [(2, _), (6, _), (5, _), (4, _), (3, _), (1, _), (0, _)]) C dX1_dropLower_66 4 rfl rfl (by decide) rfl rfl ?_
            refine x_iinc (pc2 := 72) (v := nI (k + 1)) (lv2 := [(5, _), (2, _), (6, _), (4, _), (3, _), (1, _), (0, _)]) C dX1_dropLower_69 2 rfl (nI_1 _) (by decide) rfl rfl ?_
            refine x_goto (tgt := 22) C dX1_dropLower_72 (by decide) ?_
            exact x_sub (lv2 := [(5, _), (4, _), (3, _), (2, _), (1, _), (0, _)]) C [0, 3, 4, 1, 5, 6] rfl (ih (k + 1) _ _ _ (by show (nI (alen 2002)).toNatClampNeg + 1 ≤ k + 1 + n; have h9 := x_lt hk (by assumption); omega) (by show k + 1 ≤ (nI (alen 2002)).toNatClampNeg; have h9 := x_lt hk (by assumption); omega) (XC_to C (by rw [fX1_dropLower_l, if_neg qc_1, if_neg qc_3, if_neg qc_4, if_pos qc_5] <;> rfl) (by rw [fX1_dropLower_l, if_neg qc_1, if_neg qc_3, if_neg qc_4, if_pos qc_5] <;> rfl)))
set_option maxRecDepth 20000 in
theorem tX1_dropLower {G : XG} (hok : XK G) {i : Nat} {Ω : XO} (hd0 : dm G 1 i)  : XM G yX1_dropLower cX1_dropLower 7 ((some FieldType.int)) (RM 2 0) [.ref (ad G 1 i)] Ω (.inl (some (.int ((fX1_dropLower Ω i).1)))) (fX1_dropLower Ω i).2 := by
  refine x_start (lv := [(0, .ref (ad G 1 i))]) (own := RX1) hok (by decide +kernel) rfl (Nat.le_of_ble_eq_true rfl) rfl (fun B C => ?_)
  refine x_aload_n (pc2 := 1) C dX1_dropLower_0 0 rfl rfl rfl ?_
  refine x_ret (rest := []) (st2 := [_]) (pc2 := 4) (cu2 := 0) (su2 := 0) (x_cV C (by assumption) (Nat.le_of_ble_eq_true rfl) kmX1_lastFinalBlock rfl kk_1_51 (tX1_lastFinalBlock hok (by assumption)) rfl rfl (Nat.le_of_ble_eq_true rfl) ⟨Nat.le_of_ble_eq_true rfl, Nat.le_of_ble_eq_true rfl⟩ ⟨Nat.le_of_ble_eq_true rfl, Nat.le_of_ble_eq_true rfl⟩ dX1_dropLower_1) rfl rfl rfl rfl ?_
  have qd_1 := D_lastFinalBlock hok (Ω := Ω) (by assumption)
  refine x_getI (pc2 := 7) (f := 2) C (by assumption) kf_1_149 dX1_dropLower_4 rfl rfl rfl ?_
  refine x_istore_n (pc2 := 8) (lv2 := [(1, _), (0, _)]) C dX1_dropLower_7 rfl (by decide) rfl rfl ?_
  refine x_iconst (pc2 := 9) (v := 0) C dX1_dropLower_8 rfl rfl ?_
  refine x_istore_n (pc2 := 10) (lv2 := [(2, _), (1, _), (0, _)]) C dX1_dropLower_9 rfl (by decide) rfl rfl ?_
  refine x_aload_n (pc2 := 11) C dX1_dropLower_10 2 rfl rfl rfl ?_
  refine x_getR (f := 100) (k2 := 2002) (pc2 := 14) C (by assumption) kf_1_11 dX1_dropLower_11 rfl rfl rfl (rti_i rfl) rfl (fun qd_2 => ?_)
  refine x_astore_n (pc2 := 15) (lv2 := [(3, _), (2, _), (1, _), (0, _)]) C dX1_dropLower_14 rfl (by decide) rfl rfl ?_
  refine x_aload_n (pc2 := 16) C dX1_dropLower_15 0 rfl rfl rfl ?_
  refine x_alen (pc2 := 17) C (by assumption) dX1_dropLower_16 rfl rfl rfl ?_
  refine x_istore (pc2 := 19) (lv2 := [(4, _), (3, _), (2, _), (1, _), (0, _)]) C dX1_dropLower_17 (by decide) rfl rfl ?_
  refine x_iconst (pc2 := 20) (v := 0) C dX1_dropLower_19 rfl rfl ?_
  refine x_istore (pc2 := 22) (lv2 := [(5, _), (4, _), (3, _), (2, _), (1, _), (0, _)]) C dX1_dropLower_20 (by decide) rfl rfl ?_
  exact x_sub (lv2 := [(5, _), (4, _), (3, _), (2, _), (1, _), (0, _)]) C [0, 1, 2, 3, 4, 5] rfl (lX1_dropLower hok (by assumption) (by assumption) ((nI (alen 2002)).toNatClampNeg + 1) 0 _ _ _ (by omega) (by omega) (XC_to C (by rw [fX1_dropLower] <;> rfl) (by rw [fX1_dropLower] <;> rfl)))
theorem R_fX1_dropLower_l (i : Nat) : ∀ (n k : Nat) (y2 : Int32) (y1 : Int32) (Ω : XO), xR (fX1_dropLower_l i n k y2 y1 Ω).2 = xR Ω := by
  intro n
  induction n with
  | zero => intros; rfl
  | succ n ih =>
    intros
    rw [fX1_dropLower_l]
    (repeat' split) <;> first | rfl | (rw [ih]; done) | (rw [ih]; rfl) | (rw [ih]; funext a b9; simp only [R_uI, R_uL, R_cI, R_sPut, R_fX0_imitate, R_fX0_enter, R_fX0_addEvent, R_fX3_take, R_fX3_push, R_fX3_reach, R_fX5_append, R_fX6_copyFrom, R_fX6_gain, R_fX6_move, R_fX6_raiseNonce, R_fX7_order, R_fX7_bid, R_fX7_nameLock, R_fX9_become, R_fX0_follow, R_fX3_save, R_fX1_dropRivals_l, R_fX1_dropRivals, R_fX1_throwOutFor_l, R_fX1_throwOutFor]) | (funext a b9; simp only [R_uI, R_uL, R_cI, R_sPut, R_fX0_imitate, R_fX0_enter, R_fX0_addEvent, R_fX3_take, R_fX3_push, R_fX3_reach, R_fX5_append, R_fX6_copyFrom, R_fX6_gain, R_fX6_move, R_fX6_raiseNonce, R_fX7_order, R_fX7_bid, R_fX7_nameLock, R_fX9_become, R_fX0_follow, R_fX3_save, R_fX1_dropRivals_l, R_fX1_dropRivals, R_fX1_throwOutFor_l, R_fX1_throwOutFor])
theorem R_fX1_dropLower (Ω : XO) (i : Nat) : xR (fX1_dropLower Ω i).2 = xR Ω := by
  unfold fX1_dropLower
  (repeat' split) <;> first | rfl | (funext a b9; simp only [R_uI, R_uL, R_cI, R_sPut, R_fX0_imitate, R_fX0_enter, R_fX0_addEvent, R_fX3_take, R_fX3_push, R_fX3_reach, R_fX5_append, R_fX6_copyFrom, R_fX6_gain, R_fX6_move, R_fX6_raiseNonce, R_fX7_order, R_fX7_bid, R_fX7_nameLock, R_fX9_become, R_fX0_follow, R_fX3_save, R_fX1_dropRivals_l, R_fX1_dropRivals, R_fX1_throwOutFor_l, R_fX1_throwOutFor, R_fX1_dropLower_l])

def fX2_justifiesNext_l (Ω : XO) (i1 : Nat) (i2 : Nat) : Nat → Nat → Int32
  | 0, _ => 0
  | n + 1, k => (if (nI (alen 2002)) ≤ (nI k) then (0 : Int32) else (if (((xI Ω 15 i2 0) >>> ((xI Ω 0 (24 * i1 + (nI k).toNatClampNeg) 0) &&& 31)) &&& (1 : Int32)) = (1 : Int32) then (if (xI Ω 2 (24 * i1 + (nI k).toNatClampNeg) 0) = ((xI Ω 2 i2 0) + (1 : Int32)) then (1 : Int32) else fX2_justifiesNext_l Ω i1 i2 n (k + 1)) else fX2_justifiesNext_l Ω i1 i2 n (k + 1)))
def fX2_justifiesNext (Ω : XO) (i1 : Nat) (i2 : Nat) : Int32 := fX2_justifiesNext_l Ω i1 i2 ((nI (alen 2002)).toNatClampNeg + 1) 0
set_option maxRecDepth 20000 in
theorem lX2_justifiesNext {G : XG} (hok : XK G) {B : XB} {i1 : Nat} {i2 : Nat} {Ω : XO} (hd1 : dm G 2002 i1) (hd2 : dm G 0 i2)   : ∀ (n k : Nat), (nI (alen 2002)).toNatClampNeg + 1 ≤ k + n → k ≤ (nI (alen 2002)).toNatClampNeg → XC G B cX2_justifiesNext RX2 (RM 0 0) 6 ((some FieldType.boolean)) (.inl (some (.int (fX2_justifiesNext_l Ω i1 i2 n k)))) Ω → XW G B 6 8 [(4, .int (nI k)), (3, .int (nI (alen 2002))), (2, .ref (ad G 2002 (i1))), (0, .ref (ad G 2002 (i1))), (1, .ref (ad G 0 (i2)))] [] Ω 0 0 := by
  intro n
  induction n with
  | zero => intro k h1 h2; exact absurd h1 (by omega)
  | succ n ih =>
    intro k h1 hk C
    refine x_iload (pc2 := 10) C dX2_justifiesNext_8 0 rfl rfl ?_
    refine x_iload_n (pc2 := 11) C dX2_justifiesNext_10 1 rfl rfl rfl ?_
    refine x_icmp_ge (tgt := 58) (pc2 := 14) C dX2_justifiesNext_11 (by decide) rfl (fun qc_1 => ?_) (fun qc_1 => ?_)
    · refine x_iconst (pc2 := 59) (v := 0) C dX2_justifiesNext_58 rfl rfl ?_
      exact x_zreturn C dX2_justifiesNext_59 rfl (by first | exact Or.inl rfl | exact Or.inr rfl) (Nat.le_of_ble_eq_true rfl) (Nat.le_of_ble_eq_true rfl) (by rw [fX2_justifiesNext_l, if_pos qc_1] <;> rfl) rfl
    · refine x_aload_n (pc2 := 15) C dX2_justifiesNext_14 2 rfl rfl rfl ?_
      refine x_iload (pc2 := 17) C dX2_justifiesNext_15 0 rfl rfl ?_
      refine x_aald (k2 := 0) (pc2 := 18) C (by assumption) dX2_justifiesNext_17 rfl rfl (by first | exact x_inK (by assumption) (by assumption) | exact x_in (by assumption) (by assumption) (by decide)) rfl (eli_2002 _ _) rfl (fun qd_2 => ?_)
      refine x_astore (pc2 := 20) (lv2 := [(5, _), (4, _), (3, _), (2, _), (0, _), (1, _)]) C dX2_justifiesNext_18 (by decide) rfl rfl ?_
      refine x_aload_n (pc2 := 21) C dX2_justifiesNext_20 5 rfl rfl rfl ?_
      refine x_getI (pc2 := 24) (f := 15) C (by assumption) kf_2_47 dX2_justifiesNext_21 rfl rfl rfl ?_
      refine x_aload (pc2 := 26) C dX2_justifiesNext_24 0 rfl rfl ?_
      refine x_getI (pc2 := 29) (f := 0) C (by assumption) kf_2_80 dX2_justifiesNext_26 rfl rfl rfl ?_
      refine x_ishr (pc2 := 30) C dX2_justifiesNext_29 rfl ?_
      refine x_iconst (pc2 := 31) (v := 1) C dX2_justifiesNext_30 rfl rfl ?_
      refine x_iand (pc2 := 32) C dX2_justifiesNext_31 rfl ?_
      refine x_iconst (pc2 := 33) (v := 1) C dX2_justifiesNext_32 rfl rfl ?_
      refine x_icmp_ne (tgt := 52) (pc2 := 36) C dX2_justifiesNext_33 (by decide) rfl (fun qc_3 => ?_) (fun qc_3 => ?_)
      · refine x_iinc (pc2 := 55) (v := nI (k + 1)) (lv2 := [(4, _), (5, _), (3, _), (2, _), (0, _), (1, _)]) C dX2_justifiesNext_52 1 rfl (nI_1 _) (by decide) rfl rfl ?_
        refine x_goto (tgt := 8) C dX2_justifiesNext_55 (by decide) ?_
        exact x_sub (lv2 := [(4, _), (3, _), (2, _), (0, _), (1, _)]) C [0, 2, 3, 4, 5] rfl (ih (k + 1) (by show (nI (alen 2002)).toNatClampNeg + 1 ≤ k + 1 + n; have h9 := x_lt hk (by assumption); omega) (by show k + 1 ≤ (nI (alen 2002)).toNatClampNeg; have h9 := x_lt hk (by assumption); omega) (XC_to C (by rw [fX2_justifiesNext_l, if_neg qc_1, if_neg qc_3] <;> rfl) rfl))
      · refine x_aload (pc2 := 38) C dX2_justifiesNext_36 0 rfl rfl ?_
        refine x_getI (pc2 := 41) (f := 2) C (by assumption) kf_2_73 dX2_justifiesNext_38 rfl rfl rfl ?_
        refine x_aload_n (pc2 := 42) C dX2_justifiesNext_41 5 rfl rfl rfl ?_
        refine x_getI (pc2 := 45) (f := 2) C (by assumption) kf_2_73 dX2_justifiesNext_42 rfl rfl rfl ?_
        refine x_iconst (pc2 := 46) (v := 1) C dX2_justifiesNext_45 rfl rfl ?_
        refine x_iadd (pc2 := 47) C dX2_justifiesNext_46 rfl ?_
        refine x_icmp_ne (tgt := 52) (pc2 := 50) C dX2_justifiesNext_47 (by decide) rfl (fun qc_4 => ?_) (fun qc_4 => ?_)
        · refine x_iinc (pc2 := 55) (v := nI (k + 1)) (lv2 := [(4, _), (5, _), (3, _), (2, _), (0, _), (1, _)]) C dX2_justifiesNext_52 1 rfl (nI_1 _) (by decide) rfl rfl ?_
          refine x_goto (tgt := 8) C dX2_justifiesNext_55 (by decide) ?_
          exact x_sub (lv2 := [(4, _), (3, _), (2, _), (0, _), (1, _)]) C [0, 2, 3, 4, 5] rfl (ih (k + 1) (by show (nI (alen 2002)).toNatClampNeg + 1 ≤ k + 1 + n; have h9 := x_lt hk (by assumption); omega) (by show k + 1 ≤ (nI (alen 2002)).toNatClampNeg; have h9 := x_lt hk (by assumption); omega) (XC_to C (by rw [fX2_justifiesNext_l, if_neg qc_1, if_pos qc_3, if_neg qc_4] <;> rfl) rfl))
        · refine x_iconst (pc2 := 51) (v := 1) C dX2_justifiesNext_50 rfl rfl ?_
          exact x_zreturn C dX2_justifiesNext_51 rfl (by first | exact Or.inl rfl | exact Or.inr rfl) (Nat.le_of_ble_eq_true rfl) (Nat.le_of_ble_eq_true rfl) (by rw [fX2_justifiesNext_l, if_neg qc_1, if_pos qc_3, if_pos qc_4] <;> rfl) rfl
set_option maxRecDepth 20000 in
theorem tX2_justifiesNext {G : XG} (hok : XK G) {i1 : Nat} {i2 : Nat} {Ω : XO} (hd1 : dm G 2002 i1) (hd2 : dm G 0 i2)  : XM G yX2_justifiesNext cX2_justifiesNext 6 ((some FieldType.boolean)) (RM 0 0) [.ref (ad G 2002 i1), .ref (ad G 0 i2)] Ω (.inl (some (.int (fX2_justifiesNext Ω i1 i2)))) Ω := by
  refine x_start (lv := [(0, .ref (ad G 2002 i1)), (1, .ref (ad G 0 i2))]) (own := RX2) hok (by decide +kernel) rfl (Nat.le_of_ble_eq_true rfl) rfl (fun B C => ?_)
  refine x_aload_n (pc2 := 1) C dX2_justifiesNext_0 0 rfl rfl rfl ?_
  refine x_astore_n (pc2 := 2) (lv2 := [(2, _), (0, _), (1, _)]) C dX2_justifiesNext_1 rfl (by decide) rfl rfl ?_
  refine x_aload_n (pc2 := 3) C dX2_justifiesNext_2 0 rfl rfl rfl ?_
  refine x_alen (pc2 := 4) C (by assumption) dX2_justifiesNext_3 rfl rfl rfl ?_
  refine x_istore_n (pc2 := 5) (lv2 := [(3, _), (2, _), (0, _), (1, _)]) C dX2_justifiesNext_4 rfl (by decide) rfl rfl ?_
  refine x_iconst (pc2 := 6) (v := 0) C dX2_justifiesNext_5 rfl rfl ?_
  refine x_istore (pc2 := 8) (lv2 := [(4, _), (3, _), (2, _), (0, _), (1, _)]) C dX2_justifiesNext_6 (by decide) rfl rfl ?_
  exact x_sub (lv2 := [(4, _), (3, _), (2, _), (0, _), (1, _)]) C [0, 1, 2, 3, 4] rfl (lX2_justifiesNext hok (by assumption) (by assumption) ((nI (alen 2002)).toNatClampNeg + 1) 0 (by omega) (by omega) (XC_to C (by rw [fX2_justifiesNext] <;> rfl) rfl))

def fX3_open_l  (i : Nat) (x1 : Int32) (x2 : Int32) (x3 : Int32) (x4 : Int32) (x5 : Int32) : Nat → Nat → XO → XO
  | 0, _, Ω => Ω
  | n + 1, k, Ω => (if (16 : Int32) ≤ (nI k) then Ω else fX3_open_l i x1 x2 x3 x4 x5 n (k + 1) (sPut Ω 2006 i (nI k) (0 : Int32)))
def fX3_open (Ω : XO) (i : Nat) (x1 : Int32) (x2 : Int32) (x3 : Int32) (x4 : Int32) (x5 : Int32) : XO := fX3_open_l i x1 x2 x3 x4 x5 ((16 : Int32).toNatClampNeg + 1) 0 (uI (uI (uI (uI (uI (uI (uI (uI Ω 308 i 0 x1) 305 i 0 x2) 304 i 0 x3) 306 i 0 x4) 307 i 0 x5) 309 i 0 (0 : Int32)) 301 i 0 (0 : Int32)) 303 i 0 (-1 : Int32))
set_option maxRecDepth 20000 in
theorem lX3_open {G : XG} (hok : XK G) {B : XB} {i : Nat} {x1 : Int32} {x2 : Int32} {x3 : Int32} {x4 : Int32} {x5 : Int32} (hd0 : dm G 3 i)   : ∀ (n k : Nat) (Ω : XO), (16 : Int32).toNatClampNeg + 1 ≤ k + n → k ≤ (16 : Int32).toNatClampNeg → XC G B cX3_open RX3 (RM 1 0) 7 none (.inl none) (fX3_open_l i x1 x2 x3 x4 x5 n k Ω) → XW G B 7 45 [(6, .int (nI k)), (0, .ref (ad G 3 (i))), (1, .int (x1)), (2, .int (x2)), (3, .int (x3)), (4, .int (x4)), (5, .int (x5))] [] Ω 0 0 := by
  intro n
  induction n with
  | zero => intro k Ω h1 h2; exact absurd h1 (by omega)
  | succ n ih =>
    intro k Ω h1 hk C
    refine x_iload (pc2 := 47) C dX3_open_45 0 rfl rfl ?_
    refine x_bipush (pc2 := 49) (v := 16) C dX3_open_47 rfl rfl ?_
    refine x_icmp_ge (tgt := 68) (pc2 := 52) C dX3_open_49 (by decide) rfl (fun qc_1 => ?_) (fun qc_1 => ?_)
    · exact x_vreturn C dX3_open_68 rfl (Nat.le_of_ble_eq_true rfl) (Nat.le_of_ble_eq_true rfl) rfl (by rw [fX3_open_l, if_pos qc_1] <;> rfl)
    · refine x_aload_n (pc2 := 53) C dX3_open_52 1 rfl rfl rfl ?_
      refine x_getR (f := 302) (k2 := 2006) (pc2 := 56) C (by assumption) kf_3_15 dX3_open_53 rfl rfl rfl (rti_i rfl) rfl (fun qd_2 => ?_)
      refine x_iload (pc2 := 58) C dX3_open_56 0 rfl rfl ?_
      refine x_iconst (pc2 := 59) (v := 0) C dX3_open_58 rfl rfl ?_
      refine x_ret (rest := []) (st2 := []) (pc2 := 62) (cu2 := 0) (su2 := 0) (x_cSN C kmX10_put ke_3_50 (tX10_put hok (by assumption) rfl (by decide)) rfl rfl (Nat.le_of_ble_eq_true rfl) ⟨Nat.le_of_ble_eq_true rfl, Nat.le_of_ble_eq_true rfl⟩ ⟨Nat.le_of_ble_eq_true rfl, Nat.le_of_ble_eq_true rfl⟩ dX3_open_59) rfl rfl rfl rfl ?_
      refine x_iinc (pc2 := 65) (v := nI (k + 1)) (lv2 := [(6, _), (0, _), (1, _), (2, _), (3, _), (4, _), (5, _)]) C dX3_open_62 0 rfl (nI_1 _) (by decide) rfl rfl ?_
      refine x_goto (tgt := 45) C dX3_open_65 (by decide) ?_
      exact x_sub (lv2 := [(6, _), (0, _), (1, _), (2, _), (3, _), (4, _), (5, _)]) C [0, 1, 2, 3, 4, 5, 6] rfl (ih (k + 1) _ (by show (16 : Int32).toNatClampNeg + 1 ≤ k + 1 + n; have h9 := x_lt hk (by assumption); omega) (by show k + 1 ≤ (16 : Int32).toNatClampNeg; have h9 := x_lt hk (by assumption); omega) (XC_to C rfl (by rw [fX3_open_l, if_neg qc_1] <;> rfl)))
set_option maxRecDepth 20000 in
theorem tX3_open {G : XG} (hok : XK G) {i : Nat} {x1 : Int32} {x2 : Int32} {x3 : Int32} {x4 : Int32} {x5 : Int32} {Ω : XO} (hd0 : dm G 3 i)  : XM G yX3_open cX3_open 7 none (RM 1 0) [.ref (ad G 3 i), .int x1, .int x2, .int x3, .int x4, .int x5] Ω (.inl none) (fX3_open Ω i x1 x2 x3 x4 x5) := by
  refine x_start (lv := [(0, .ref (ad G 3 i)), (1, .int x1), (2, .int x2), (3, .int x3), (4, .int x4), (5, .int x5)]) (own := RX3) hok (by decide +kernel) rfl (Nat.le_of_ble_eq_true rfl) rfl (fun B C => ?_)
  refine x_aload_n (pc2 := 1) C dX3_open_0 0 rfl rfl rfl ?_
  refine x_iload_n (pc2 := 2) C dX3_open_1 1 rfl rfl rfl ?_
  refine x_putI (pc2 := 5) (f := 308) C (by assumption) kf_3_25 dX3_open_2 rfl rfl rfl rfl rfl ?_
  refine x_aload_n (pc2 := 6) C dX3_open_5 0 rfl rfl rfl ?_
  refine x_iload_n (pc2 := 7) C dX3_open_6 2 rfl rfl rfl ?_
  refine x_putI (pc2 := 10) (f := 305) C (by assumption) kf_3_29 dX3_open_7 rfl rfl rfl rfl rfl ?_
  refine x_aload_n (pc2 := 11) C dX3_open_10 0 rfl rfl rfl ?_
  refine x_iload_n (pc2 := 12) C dX3_open_11 3 rfl rfl rfl ?_
  refine x_putI (pc2 := 15) (f := 304) C (by assumption) kf_3_32 dX3_open_12 rfl rfl rfl rfl rfl ?_
  refine x_aload_n (pc2 := 16) C dX3_open_15 0 rfl rfl rfl ?_
  refine x_iload (pc2 := 18) C dX3_open_16 4 rfl rfl ?_
  refine x_putI (pc2 := 21) (f := 306) C (by assumption) kf_3_35 dX3_open_18 rfl rfl rfl rfl rfl ?_
  refine x_aload_n (pc2 := 22) C dX3_open_21 0 rfl rfl rfl ?_
  refine x_iload (pc2 := 24) C dX3_open_22 5 rfl rfl ?_
  refine x_putI (pc2 := 27) (f := 307) C (by assumption) kf_3_38 dX3_open_24 rfl rfl rfl rfl rfl ?_
  refine x_aload_n (pc2 := 28) C dX3_open_27 0 rfl rfl rfl ?_
  refine x_iconst (pc2 := 29) (v := 0) C dX3_open_28 rfl rfl ?_
  refine x_putI (pc2 := 32) (f := 309) C (by assumption) kf_3_41 dX3_open_29 rfl rfl rfl rfl rfl ?_
  refine x_aload_n (pc2 := 33) C dX3_open_32 0 rfl rfl rfl ?_
  refine x_iconst (pc2 := 34) (v := 0) C dX3_open_33 rfl rfl ?_
  refine x_putI (pc2 := 37) (f := 301) C (by assumption) kf_3_44 dX3_open_34 rfl rfl rfl rfl rfl ?_
  refine x_aload_n (pc2 := 38) C dX3_open_37 0 rfl rfl rfl ?_
  refine x_iconst (pc2 := 39) (v := (-1)) C dX3_open_38 rfl rfl ?_
  refine x_putI (pc2 := 42) (f := 303) C (by assumption) kf_3_47 dX3_open_39 rfl rfl rfl rfl rfl ?_
  refine x_iconst (pc2 := 43) (v := 0) C dX3_open_42 rfl rfl ?_
  refine x_istore (pc2 := 45) (lv2 := [(6, _), (0, _), (1, _), (2, _), (3, _), (4, _), (5, _)]) C dX3_open_43 (by decide) rfl rfl ?_
  exact x_sub (lv2 := [(6, _), (0, _), (1, _), (2, _), (3, _), (4, _), (5, _)]) C [0, 1, 2, 3, 4, 5, 6] rfl (lX3_open hok (by assumption) ((16 : Int32).toNatClampNeg + 1) 0 _ (by omega) (by omega) (XC_to C rfl (by rw [fX3_open] <;> rfl)))
theorem R_fX3_open_l (i : Nat) (x1 : Int32) (x2 : Int32) (x3 : Int32) (x4 : Int32) (x5 : Int32) : ∀ (n k : Nat) (Ω : XO), xR (fX3_open_l i x1 x2 x3 x4 x5 n k Ω) = xR Ω := by
  intro n
  induction n with
  | zero => intros; rfl
  | succ n ih =>
    intros
    rw [fX3_open_l]
    (repeat' split) <;> first | rfl | (rw [ih]; done) | (rw [ih]; rfl) | (rw [ih]; funext a b9; simp only [R_uI, R_uL, R_cI, R_sPut, R_fX0_imitate, R_fX0_enter, R_fX0_addEvent, R_fX3_take, R_fX3_push, R_fX3_reach, R_fX5_append, R_fX6_copyFrom, R_fX6_gain, R_fX6_move, R_fX6_raiseNonce, R_fX7_order, R_fX7_bid, R_fX7_nameLock, R_fX9_become, R_fX0_follow, R_fX3_save, R_fX1_dropRivals_l, R_fX1_dropRivals, R_fX1_throwOutFor_l, R_fX1_throwOutFor, R_fX1_dropLower_l, R_fX1_dropLower]) | (funext a b9; simp only [R_uI, R_uL, R_cI, R_sPut, R_fX0_imitate, R_fX0_enter, R_fX0_addEvent, R_fX3_take, R_fX3_push, R_fX3_reach, R_fX5_append, R_fX6_copyFrom, R_fX6_gain, R_fX6_move, R_fX6_raiseNonce, R_fX7_order, R_fX7_bid, R_fX7_nameLock, R_fX9_become, R_fX0_follow, R_fX3_save, R_fX1_dropRivals_l, R_fX1_dropRivals, R_fX1_throwOutFor_l, R_fX1_throwOutFor, R_fX1_dropLower_l, R_fX1_dropLower])
theorem R_fX3_open (Ω : XO) (i : Nat) (x1 : Int32) (x2 : Int32) (x3 : Int32) (x4 : Int32) (x5 : Int32) : xR (fX3_open Ω i x1 x2 x3 x4 x5) = xR Ω := by
  unfold fX3_open
  (repeat' split) <;> first | rfl | (funext a b9; simp only [R_uI, R_uL, R_cI, R_sPut, R_fX0_imitate, R_fX0_enter, R_fX0_addEvent, R_fX3_take, R_fX3_push, R_fX3_reach, R_fX5_append, R_fX6_copyFrom, R_fX6_gain, R_fX6_move, R_fX6_raiseNonce, R_fX7_order, R_fX7_bid, R_fX7_nameLock, R_fX9_become, R_fX0_follow, R_fX3_save, R_fX1_dropRivals_l, R_fX1_dropRivals, R_fX1_throwOutFor_l, R_fX1_throwOutFor, R_fX1_dropLower_l, R_fX1_dropLower, R_fX3_open_l])

def fX6_dropProgram_l  (i : Nat) (x1 : Int32) : Nat → Nat → XO → XO
  | 0, _, Ω => Ω
  | n + 1, k, Ω => (if (4 : Int32) ≤ (nI k) then Ω else fX6_dropProgram_l i x1 n (k + 1) (sPut Ω 2014 i ((x1 * (4 : Int32)) + (nI k)) (0 : Int32)))
def fX6_dropProgram (Ω : XO) (i : Nat) (x1 : Int32) : XO := fX6_dropProgram_l i x1 ((4 : Int32).toNatClampNeg + 1) 0 (sPut Ω 2013 i x1 (0 : Int32))
set_option maxRecDepth 20000 in
theorem lX6_dropProgram {G : XG} (hok : XK G) {B : XB} {i : Nat} {x1 : Int32} (hd0 : dm G 6 i)   : ∀ (n k : Nat) (Ω : XO), (4 : Int32).toNatClampNeg + 1 ≤ k + n → k ≤ (4 : Int32).toNatClampNeg → XC G B cX6_dropProgram RX6 (RM 1 0) 3 none (.inl none) (fX6_dropProgram_l i x1 n k Ω) → XW G B 3 11 [(2, .int (nI k)), (0, .ref (ad G 6 (i))), (1, .int (x1))] [] Ω 0 0 := by
  intro n
  induction n with
  | zero => intro k Ω h1 h2; exact absurd h1 (by omega)
  | succ n ih =>
    intro k Ω h1 hk C
    refine x_iload_n (pc2 := 12) C dX6_dropProgram_11 0 rfl rfl rfl ?_
    refine x_iconst (pc2 := 13) (v := 4) C dX6_dropProgram_12 rfl rfl ?_
    refine x_icmp_ge (tgt := 35) (pc2 := 16) C dX6_dropProgram_13 (by decide) rfl (fun qc_1 => ?_) (fun qc_1 => ?_)
    · exact x_vreturn C dX6_dropProgram_35 rfl (Nat.le_of_ble_eq_true rfl) (Nat.le_of_ble_eq_true rfl) rfl (by rw [fX6_dropProgram_l, if_pos qc_1] <;> rfl)
    · refine x_aload_n (pc2 := 17) C dX6_dropProgram_16 1 rfl rfl rfl ?_
      refine x_getR (f := 603) (k2 := 2014) (pc2 := 20) C (by assumption) kf_6_21 dX6_dropProgram_17 rfl rfl rfl (rti_i rfl) rfl (fun qd_2 => ?_)
      refine x_iload_n (pc2 := 21) C dX6_dropProgram_20 2 rfl rfl rfl ?_
      refine x_iconst (pc2 := 22) (v := 4) C dX6_dropProgram_21 rfl rfl ?_
      refine x_imul (pc2 := 23) C dX6_dropProgram_22 rfl ?_
      refine x_iload_n (pc2 := 24) C dX6_dropProgram_23 0 rfl rfl rfl ?_
      refine x_iadd (pc2 := 25) C dX6_dropProgram_24 rfl ?_
      refine x_iconst (pc2 := 26) (v := 0) C dX6_dropProgram_25 rfl rfl ?_
      refine x_ret (rest := []) (st2 := []) (pc2 := 29) (cu2 := 0) (su2 := 0) (x_cSN C kmX10_put ke_6_24 (tX10_put hok (by assumption) rfl (by decide)) rfl rfl (Nat.le_of_ble_eq_true rfl) ⟨Nat.le_of_ble_eq_true rfl, Nat.le_of_ble_eq_true rfl⟩ ⟨Nat.le_of_ble_eq_true rfl, Nat.le_of_ble_eq_true rfl⟩ dX6_dropProgram_26) rfl rfl rfl rfl ?_
      refine x_iinc (pc2 := 32) (v := nI (k + 1)) (lv2 := [(2, _), (0, _), (1, _)]) C dX6_dropProgram_29 0 rfl (nI_1 _) (by decide) rfl rfl ?_
      refine x_goto (tgt := 11) C dX6_dropProgram_32 (by decide) ?_
      exact x_sub (lv2 := [(2, _), (0, _), (1, _)]) C [0, 1, 2] rfl (ih (k + 1) _ (by show (4 : Int32).toNatClampNeg + 1 ≤ k + 1 + n; have h9 := x_lt hk (by assumption); omega) (by show k + 1 ≤ (4 : Int32).toNatClampNeg; have h9 := x_lt hk (by assumption); omega) (XC_to C rfl (by rw [fX6_dropProgram_l, if_neg qc_1] <;> rfl)))
set_option maxRecDepth 20000 in
theorem tX6_dropProgram {G : XG} (hok : XK G) {i : Nat} {x1 : Int32} {Ω : XO} (hd0 : dm G 6 i)  : XM G yX6_dropProgram cX6_dropProgram 3 none (RM 1 0) [.ref (ad G 6 i), .int x1] Ω (.inl none) (fX6_dropProgram Ω i x1) := by
  refine x_start (lv := [(0, .ref (ad G 6 i)), (1, .int x1)]) (own := RX6) hok (by decide +kernel) rfl (Nat.le_of_ble_eq_true rfl) rfl (fun B C => ?_)
  refine x_aload_n (pc2 := 1) C dX6_dropProgram_0 0 rfl rfl rfl ?_
  refine x_getR (f := 602) (k2 := 2013) (pc2 := 4) C (by assumption) kf_6_18 dX6_dropProgram_1 rfl rfl rfl (rti_i rfl) rfl (fun qd_1 => ?_)
  refine x_iload_n (pc2 := 5) C dX6_dropProgram_4 1 rfl rfl rfl ?_
  refine x_iconst (pc2 := 6) (v := 0) C dX6_dropProgram_5 rfl rfl ?_
  refine x_ret (rest := []) (st2 := []) (pc2 := 9) (cu2 := 0) (su2 := 0) (x_cSN C kmX10_put ke_6_24 (tX10_put hok (by assumption) rfl (by decide)) rfl rfl (Nat.le_of_ble_eq_true rfl) ⟨Nat.le_of_ble_eq_true rfl, Nat.le_of_ble_eq_true rfl⟩ ⟨Nat.le_of_ble_eq_true rfl, Nat.le_of_ble_eq_true rfl⟩ dX6_dropProgram_6) rfl rfl rfl rfl ?_
  refine x_iconst (pc2 := 10) (v := 0) C dX6_dropProgram_9 rfl rfl ?_
  refine x_istore_n (pc2 := 11) (lv2 := [(2, _), (0, _), (1, _)]) C dX6_dropProgram_10 rfl (by decide) rfl rfl ?_
  exact x_sub (lv2 := [(2, _), (0, _), (1, _)]) C [0, 1, 2] rfl (lX6_dropProgram hok (by assumption) ((4 : Int32).toNatClampNeg + 1) 0 _ (by omega) (by omega) (XC_to C rfl (by rw [fX6_dropProgram] <;> rfl)))
theorem R_fX6_dropProgram_l (i : Nat) (x1 : Int32) : ∀ (n k : Nat) (Ω : XO), xR (fX6_dropProgram_l i x1 n k Ω) = xR Ω := by
  intro n
  induction n with
  | zero => intros; rfl
  | succ n ih =>
    intros
    rw [fX6_dropProgram_l]
    (repeat' split) <;> first | rfl | (rw [ih]; done) | (rw [ih]; rfl) | (rw [ih]; funext a b9; simp only [R_uI, R_uL, R_cI, R_sPut, R_fX0_imitate, R_fX0_enter, R_fX0_addEvent, R_fX3_take, R_fX3_push, R_fX3_reach, R_fX5_append, R_fX6_copyFrom, R_fX6_gain, R_fX6_move, R_fX6_raiseNonce, R_fX7_order, R_fX7_bid, R_fX7_nameLock, R_fX9_become, R_fX0_follow, R_fX3_save, R_fX1_dropRivals_l, R_fX1_dropRivals, R_fX1_throwOutFor_l, R_fX1_throwOutFor, R_fX1_dropLower_l, R_fX1_dropLower, R_fX3_open_l, R_fX3_open]) | (funext a b9; simp only [R_uI, R_uL, R_cI, R_sPut, R_fX0_imitate, R_fX0_enter, R_fX0_addEvent, R_fX3_take, R_fX3_push, R_fX3_reach, R_fX5_append, R_fX6_copyFrom, R_fX6_gain, R_fX6_move, R_fX6_raiseNonce, R_fX7_order, R_fX7_bid, R_fX7_nameLock, R_fX9_become, R_fX0_follow, R_fX3_save, R_fX1_dropRivals_l, R_fX1_dropRivals, R_fX1_throwOutFor_l, R_fX1_throwOutFor, R_fX1_dropLower_l, R_fX1_dropLower, R_fX3_open_l, R_fX3_open])
theorem R_fX6_dropProgram (Ω : XO) (i : Nat) (x1 : Int32) : xR (fX6_dropProgram Ω i x1) = xR Ω := by
  unfold fX6_dropProgram
  (repeat' split) <;> first | rfl | (funext a b9; simp only [R_uI, R_uL, R_cI, R_sPut, R_fX0_imitate, R_fX0_enter, R_fX0_addEvent, R_fX3_take, R_fX3_push, R_fX3_reach, R_fX5_append, R_fX6_copyFrom, R_fX6_gain, R_fX6_move, R_fX6_raiseNonce, R_fX7_order, R_fX7_bid, R_fX7_nameLock, R_fX9_become, R_fX0_follow, R_fX3_save, R_fX1_dropRivals_l, R_fX1_dropRivals, R_fX1_throwOutFor_l, R_fX1_throwOutFor, R_fX1_dropLower_l, R_fX1_dropLower, R_fX3_open_l, R_fX3_open, R_fX6_dropProgram_l])

def fX8_give_l  (i : Nat) (i1 : Nat) (i2 : Nat) : Nat → Nat → Nat → XO → Int32 × XO
  | 0, _, _, Ω => (0, Ω)
  | n + 1, k, y3, Ω => (if (xI Ω 801 i 0) ≤ (nI k) then (if (xI (uI Ω 801 i 0 ((xI Ω 801 i 0) + (1 : Int32))) 802 i 0) = 0 then ((1 : Int32), uI Ω 801 i 0 ((xI Ω 801 i 0) + (1 : Int32))) else ((0 : Int32), uI Ω 801 i 0 ((xI Ω 801 i 0) + (1 : Int32)))) else (if (fX9_clashesWith Ω y3 (fX8_voteAt Ω i (nI k))) = 0 then fX8_give_l i i1 i2 n (k + 1) y3 Ω else fX8_give_l i i1 i2 n (k + 1) y3 (uI Ω 802 i 0 (1 : Int32))))
def fX8_give (Ω : XO) (i : Nat) (i1 : Nat) (i2 : Nat) : Int32 × XO := fX8_give_l i i1 i2 ((xI (fX9_become (fX9_become Ω (fX8_voteAt Ω i (xI Ω 801 i 0)) i1 i2) (fX8_voteAt (fX9_become Ω (fX8_voteAt Ω i (xI Ω 801 i 0)) i1 i2) i (xI (fX9_become Ω (fX8_voteAt Ω i (xI Ω 801 i 0)) i1 i2) 801 i 0)) i1 i2) 801 i 0).toNatClampNeg + 1) 0 (fX8_voteAt Ω i (xI Ω 801 i 0)) (fX9_become Ω (fX8_voteAt Ω i (xI Ω 801 i 0)) i1 i2)
set_option maxRecDepth 20000 in
theorem lX8_give {G : XG} (hok : XK G) {B : XB} {i : Nat} {i1 : Nat} {i2 : Nat} (hd0 : dm G 8 i) (hd1 : dm G 0 i1) (hd2 : dm G 0 i2)   : ∀ (n k : Nat) (y3 : Nat) (Ω : XO), dm G 9 y3 → (xI (fX9_become Ω (fX8_voteAt Ω i (xI Ω 801 i 0)) i1 i2) 801 i 0).toNatClampNeg + 1 ≤ k + n → k ≤ (xI (fX9_become Ω (fX8_voteAt Ω i (xI Ω 801 i 0)) i1 i2) 801 i 0).toNatClampNeg → XC G B cX8_give RX8 (RM 2 0) 5 ((some FieldType.boolean)) (.inl (some (.int ((fX8_give_l i i1 i2 n k y3 Ω).1)))) (fX8_give_l i i1 i2 n k y3 Ω).2 → XW G B 5 18 [(4, .int (nI k)), (3, .ref (ad G 9 (y3))), (0, .ref (ad G 8 (i))), (1, .ref (ad G 0 (i1))), (2, .ref (ad G 0 (i2)))] [] Ω 0 0 := by
  intro n
  induction n with
  | zero => intro k y3 Ω hv3 h1 h2; exact absurd h1 (by omega)
  | succ n ih =>
    intro k y3 Ω hv3 h1 hk C
    refine x_iload (pc2 := 20) C dX8_give_18 0 rfl rfl ?_
    refine x_aload_n (pc2 := 21) C dX8_give_20 2 rfl rfl rfl ?_
    refine x_getI (pc2 := 24) (f := 801) C (by assumption) kf_8_22 dX8_give_21 rfl rfl rfl ?_
    refine x_icmp_ge (tgt := 51) (pc2 := 27) C dX8_give_24 (by decide) rfl (fun qc_1 => ?_) (fun qc_1 => ?_)
    · refine x_aload_n (pc2 := 52) C dX8_give_51 2 rfl rfl rfl ?_
      refine x_dup (pc2 := 53) C dX8_give_52 rfl rfl ?_
      refine x_getI (pc2 := 56) (f := 801) C (by assumption) kf_8_22 dX8_give_53 rfl rfl rfl ?_
      refine x_iconst (pc2 := 57) (v := 1) C dX8_give_56 rfl rfl ?_
      refine x_iadd (pc2 := 58) C dX8_give_57 rfl ?_
      refine x_putI (pc2 := 61) (f := 801) C (by assumption) kf_8_22 dX8_give_58 rfl rfl rfl rfl rfl ?_
      refine x_aload_n (pc2 := 62) C dX8_give_61 2 rfl rfl rfl ?_
      refine x_getI (pc2 := 65) (f := 802) C (by assumption) kf_8_18 dX8_give_62 rfl rfl rfl ?_
      refine x_if_ne (tgt := 72) (pc2 := 68) C dX8_give_65 (by decide) rfl (fun qc_2 => ?_) (fun qc_2 => ?_)
      · refine x_iconst (pc2 := 73) (v := 0) C dX8_give_72 rfl rfl ?_
        exact x_zreturn C dX8_give_73 rfl (by first | exact Or.inl rfl | exact Or.inr rfl) (Nat.le_of_ble_eq_true rfl) (Nat.le_of_ble_eq_true rfl) (by rw [fX8_give_l, if_pos qc_1, if_neg qc_2] <;> rfl) (by rw [fX8_give_l, if_pos qc_1, if_neg qc_2] <;> rfl)
      · refine x_iconst (pc2 := 69) (v := 1) C dX8_give_68 rfl rfl ?_
        refine x_goto (tgt := 73) C dX8_give_69 (by decide) ?_
        exact x_zreturn C dX8_give_73 rfl (by first | exact Or.inl rfl | exact Or.inr rfl) (Nat.le_of_ble_eq_true rfl) (Nat.le_of_ble_eq_true rfl) (by rw [fX8_give_l, if_pos qc_1, if_pos qc_2] <;> rfl) (by rw [fX8_give_l, if_pos qc_1, if_pos qc_2] <;> rfl)
    · refine x_aload_n (pc2 := 28) C dX8_give_27 1 rfl rfl rfl ?_
      refine x_aload_n (pc2 := 29) C dX8_give_28 2 rfl rfl rfl ?_
      refine x_iload (pc2 := 31) C dX8_give_29 0 rfl rfl ?_
      refine x_ret (rest := [_]) (st2 := [_, _]) (pc2 := 34) (cu2 := 0) (su2 := 0) (x_cV C (by assumption) (Nat.le_of_ble_eq_true rfl) kmX8_voteAt rfl kk_8_32 (tX8_voteAt hok (by assumption)) rfl rfl (Nat.le_of_ble_eq_true rfl) ⟨Nat.le_of_ble_eq_true rfl, Nat.le_of_ble_eq_true rfl⟩ ⟨Nat.le_of_ble_eq_true rfl, Nat.le_of_ble_eq_true rfl⟩ dX8_give_31) rfl rfl rfl rfl ?_
      have qd_3 := D_voteAt hok (Ω := Ω) (by assumption) (x1 := (nI k))
      refine x_ret (rest := []) (st2 := [_]) (pc2 := 37) (cu2 := 0) (su2 := 0) (x_cV C (by assumption) (Nat.le_of_ble_eq_true rfl) kmX9_clashesWith rfl kk_8_40 (tX9_clashesWith hok (by assumption) (by assumption)) rfl rfl (Nat.le_of_ble_eq_true rfl) ⟨Nat.le_of_ble_eq_true rfl, Nat.le_of_ble_eq_true rfl⟩ ⟨Nat.le_of_ble_eq_true rfl, Nat.le_of_ble_eq_true rfl⟩ dX8_give_34) rfl rfl rfl rfl ?_
      refine x_if_eq (tgt := 45) (pc2 := 40) C dX8_give_37 (by decide) rfl (fun qc_4 => ?_) (fun qc_4 => ?_)
      · refine x_iinc (pc2 := 48) (v := nI (k + 1)) (lv2 := [(4, _), (3, _), (0, _), (1, _), (2, _)]) C dX8_give_45 0 rfl (nI_1 _) (by decide) rfl rfl ?_
        refine x_goto (tgt := 18) C dX8_give_48 (by decide) ?_
        exact x_sub (lv2 := [(4, _), (3, _), (0, _), (1, _), (2, _)]) C [0, 1, 2, 3, 4] rfl (ih (k + 1) _ _ (by assumption) (by show (xI (fX9_become Ω (fX8_voteAt Ω i (xI Ω 801 i 0)) i1 i2) 801 i 0).toNatClampNeg + 1 ≤ k + 1 + n; have h9 := x_lt hk (by assumption); omega) (by show k + 1 ≤ (xI (fX9_become Ω (fX8_voteAt Ω i (xI Ω 801 i 0)) i1 i2) 801 i 0).toNatClampNeg; have h9 := x_lt hk (by assumption); omega) (XC_to C (by rw [fX8_give_l, if_neg qc_1, if_pos qc_4] <;> rfl) (by rw [fX8_give_l, if_neg qc_1, if_pos qc_4] <;> rfl)))
      · refine x_aload_n (pc2 := 41) C dX8_give_40 2 rfl rfl rfl ?_
        refine x_iconst (pc2 := 42) (v := 1) C dX8_give_41 rfl rfl ?_
        refine x_putZ (pc2 := 45) (f := 802) C (by assumption) kf_8_18 dX8_give_42 rfl rfl rfl (by first | exact Or.inl rfl | exact Or.inr rfl) rfl rfl ?_
        refine x_iinc (pc2 := 48) (v := nI (k + 1)) (lv2 := [(4, _), (3, _), (0, _), (1, _), (2, _)]) C dX8_give_45 0 rfl (nI_1 _) (by decide) rfl rfl ?_
        refine x_goto (tgt := 18) C dX8_give_48 (by decide) ?_
        exact x_sub (lv2 := [(4, _), (3, _), (0, _), (1, _), (2, _)]) C [0, 1, 2, 3, 4] rfl (ih (k + 1) _ _ (by assumption) (by show (xI (fX9_become Ω (fX8_voteAt Ω i (xI Ω 801 i 0)) i1 i2) 801 i 0).toNatClampNeg + 1 ≤ k + 1 + n; have h9 := x_lt hk (by assumption); omega) (by show k + 1 ≤ (xI (fX9_become Ω (fX8_voteAt Ω i (xI Ω 801 i 0)) i1 i2) 801 i 0).toNatClampNeg; have h9 := x_lt hk (by assumption); omega) (XC_to C (by rw [fX8_give_l, if_neg qc_1, if_neg qc_4] <;> rfl) (by rw [fX8_give_l, if_neg qc_1, if_neg qc_4] <;> rfl)))
set_option maxRecDepth 20000 in
theorem tX8_give {G : XG} (hok : XK G) {i : Nat} {i1 : Nat} {i2 : Nat} {Ω : XO} (hd0 : dm G 8 i) (hd1 : dm G 0 i1) (hd2 : dm G 0 i2)  : XM G yX8_give cX8_give 5 ((some FieldType.boolean)) (RM 2 0) [.ref (ad G 8 i), .ref (ad G 0 i1), .ref (ad G 0 i2)] Ω (.inl (some (.int ((fX8_give Ω i i1 i2).1)))) (fX8_give Ω i i1 i2).2 := by
  refine x_start (lv := [(0, .ref (ad G 8 i)), (1, .ref (ad G 0 i1)), (2, .ref (ad G 0 i2))]) (own := RX8) hok (by decide +kernel) rfl (Nat.le_of_ble_eq_true rfl) rfl (fun B C => ?_)
  refine x_aload_n (pc2 := 1) C dX8_give_0 0 rfl rfl rfl ?_
  refine x_aload_n (pc2 := 2) C dX8_give_1 0 rfl rfl rfl ?_
  refine x_getI (pc2 := 5) (f := 801) C (by assumption) kf_8_22 dX8_give_2 rfl rfl rfl ?_
  refine x_ret (rest := []) (st2 := [_]) (pc2 := 8) (cu2 := 0) (su2 := 0) (x_cV C (by assumption) (Nat.le_of_ble_eq_true rfl) kmX8_voteAt rfl kk_8_32 (tX8_voteAt hok (by assumption)) rfl rfl (Nat.le_of_ble_eq_true rfl) ⟨Nat.le_of_ble_eq_true rfl, Nat.le_of_ble_eq_true rfl⟩ ⟨Nat.le_of_ble_eq_true rfl, Nat.le_of_ble_eq_true rfl⟩ dX8_give_5) rfl rfl rfl rfl ?_
  have qd_1 := D_voteAt hok (Ω := Ω) (by assumption) (x1 := (xI Ω 801 i 0))
  refine x_astore_n (pc2 := 9) (lv2 := [(3, _), (0, _), (1, _), (2, _)]) C dX8_give_8 rfl (by decide) rfl rfl ?_
  refine x_aload_n (pc2 := 10) C dX8_give_9 0 rfl rfl rfl ?_
  refine x_aload_n (pc2 := 11) C dX8_give_10 2 rfl rfl rfl ?_
  refine x_aload_n (pc2 := 12) C dX8_give_11 3 rfl rfl rfl ?_
  refine x_ret (rest := []) (st2 := []) (pc2 := 15) (cu2 := 0) (su2 := 0) (x_cV C (by assumption) (Nat.le_of_ble_eq_true rfl) kmX9_become rfl kk_8_36 (tX9_become hok (by assumption) (by assumption) (by assumption)) rfl rfl (Nat.le_of_ble_eq_true rfl) ⟨Nat.le_of_ble_eq_true rfl, Nat.le_of_ble_eq_true rfl⟩ ⟨Nat.le_of_ble_eq_true rfl, Nat.le_of_ble_eq_true rfl⟩ dX8_give_12) rfl rfl rfl rfl ?_
  refine x_iconst (pc2 := 16) (v := 0) C dX8_give_15 rfl rfl ?_
  refine x_istore (pc2 := 18) (lv2 := [(4, _), (3, _), (0, _), (1, _), (2, _)]) C dX8_give_16 (by decide) rfl rfl ?_
  exact x_sub (lv2 := [(4, _), (3, _), (0, _), (1, _), (2, _)]) C [0, 1, 2, 3, 4] rfl (lX8_give hok (by assumption) (by assumption) (by assumption) ((xI (fX9_become (fX9_become Ω (fX8_voteAt Ω i (xI Ω 801 i 0)) i1 i2) (fX8_voteAt (fX9_become Ω (fX8_voteAt Ω i (xI Ω 801 i 0)) i1 i2) i (xI (fX9_become Ω (fX8_voteAt Ω i (xI Ω 801 i 0)) i1 i2) 801 i 0)) i1 i2) 801 i 0).toNatClampNeg + 1) 0 _ _ (by assumption) (by omega) (by omega) (XC_to C (by rw [fX8_give] <;> rfl) (by rw [fX8_give] <;> rfl)))
theorem R_fX8_give_l (i : Nat) (i1 : Nat) (i2 : Nat) : ∀ (n k : Nat) (y3 : Nat) (Ω : XO), xR (fX8_give_l i i1 i2 n k y3 Ω).2 = xR Ω := by
  intro n
  induction n with
  | zero => intros; rfl
  | succ n ih =>
    intros
    rw [fX8_give_l]
    (repeat' split) <;> first | rfl | (rw [ih]; done) | (rw [ih]; rfl) | (rw [ih]; funext a b9; simp only [R_uI, R_uL, R_cI, R_sPut, R_fX0_imitate, R_fX0_enter, R_fX0_addEvent, R_fX3_take, R_fX3_push, R_fX3_reach, R_fX5_append, R_fX6_copyFrom, R_fX6_gain, R_fX6_move, R_fX6_raiseNonce, R_fX7_order, R_fX7_bid, R_fX7_nameLock, R_fX9_become, R_fX0_follow, R_fX3_save, R_fX1_dropRivals_l, R_fX1_dropRivals, R_fX1_throwOutFor_l, R_fX1_throwOutFor, R_fX1_dropLower_l, R_fX1_dropLower, R_fX3_open_l, R_fX3_open, R_fX6_dropProgram_l, R_fX6_dropProgram]) | (funext a b9; simp only [R_uI, R_uL, R_cI, R_sPut, R_fX0_imitate, R_fX0_enter, R_fX0_addEvent, R_fX3_take, R_fX3_push, R_fX3_reach, R_fX5_append, R_fX6_copyFrom, R_fX6_gain, R_fX6_move, R_fX6_raiseNonce, R_fX7_order, R_fX7_bid, R_fX7_nameLock, R_fX9_become, R_fX0_follow, R_fX3_save, R_fX1_dropRivals_l, R_fX1_dropRivals, R_fX1_throwOutFor_l, R_fX1_throwOutFor, R_fX1_dropLower_l, R_fX1_dropLower, R_fX3_open_l, R_fX3_open, R_fX6_dropProgram_l, R_fX6_dropProgram])
theorem R_fX8_give (Ω : XO) (i : Nat) (i1 : Nat) (i2 : Nat) : xR (fX8_give Ω i i1 i2).2 = xR Ω := by
  unfold fX8_give
  (repeat' split) <;> first | rfl | (funext a b9; simp only [R_uI, R_uL, R_cI, R_sPut, R_fX0_imitate, R_fX0_enter, R_fX0_addEvent, R_fX3_take, R_fX3_push, R_fX3_reach, R_fX5_append, R_fX6_copyFrom, R_fX6_gain, R_fX6_move, R_fX6_raiseNonce, R_fX7_order, R_fX7_bid, R_fX7_nameLock, R_fX9_become, R_fX0_follow, R_fX3_save, R_fX1_dropRivals_l, R_fX1_dropRivals, R_fX1_throwOutFor_l, R_fX1_throwOutFor, R_fX1_dropLower_l, R_fX1_dropLower, R_fX3_open_l, R_fX3_open, R_fX6_dropProgram_l, R_fX6_dropProgram, R_fX8_give_l])

def fX8_supports_l (Ω : XO) (i : Nat) (i1 : Nat) : Nat → Nat → Int32
  | 0, _ => 0
  | n + 1, k => (if (fX8_countingVotes Ω i) ≤ (nI k) then (0 : Int32) else (if (xI Ω 900 (fX8_voteAt Ω i (nI k)) 0) = (xI Ω 900 i1 0) then (if (xI Ω 901 (fX8_voteAt Ω i (nI k)) 0) = (xI Ω 901 i1 0) then (1 : Int32) else fX8_supports_l Ω i i1 n (k + 1)) else fX8_supports_l Ω i i1 n (k + 1)))
def fX8_supports (Ω : XO) (i : Nat) (i1 : Nat) : Int32 := fX8_supports_l Ω i i1 ((fX8_countingVotes Ω i).toNatClampNeg + 1) 0
set_option maxRecDepth 20000 in
theorem lX8_supports {G : XG} (hok : XK G) {B : XB} {i : Nat} {i1 : Nat} {Ω : XO} (hd0 : dm G 8 i) (hd1 : dm G 9 i1)   : ∀ (n k : Nat), (fX8_countingVotes Ω i).toNatClampNeg + 1 ≤ k + n → k ≤ (fX8_countingVotes Ω i).toNatClampNeg → XC G B cX8_supports RX8 (RM 2 0) 4 ((some FieldType.boolean)) (.inl (some (.int (fX8_supports_l Ω i i1 n k)))) Ω → XW G B 4 2 [(2, .int (nI k)), (0, .ref (ad G 8 (i))), (1, .ref (ad G 9 (i1)))] [] Ω 0 0 := by
  intro n
  induction n with
  | zero => intro k h1 h2; exact absurd h1 (by omega)
  | succ n ih =>
    intro k h1 hk C
    refine x_iload_n (pc2 := 3) C dX8_supports_2 0 rfl rfl rfl ?_
    refine x_aload_n (pc2 := 4) C dX8_supports_3 1 rfl rfl rfl ?_
    refine x_ret (rest := [_]) (st2 := [_, _]) (pc2 := 7) (cu2 := 0) (su2 := 0) (x_cV C (by assumption) (Nat.le_of_ble_eq_true rfl) kmX8_countingVotes rfl kk_8_44 (tX8_countingVotes hok (by assumption)) rfl rfl (Nat.le_of_ble_eq_true rfl) ⟨Nat.le_of_ble_eq_true rfl, Nat.le_of_ble_eq_true rfl⟩ ⟨Nat.le_of_ble_eq_true rfl, Nat.le_of_ble_eq_true rfl⟩ dX8_supports_4) rfl rfl rfl rfl ?_
    refine x_icmp_ge (tgt := 46) (pc2 := 10) C dX8_supports_7 (by decide) rfl (fun qc_1 => ?_) (fun qc_1 => ?_)
    · refine x_iconst (pc2 := 47) (v := 0) C dX8_supports_46 rfl rfl ?_
      exact x_zreturn C dX8_supports_47 rfl (by first | exact Or.inl rfl | exact Or.inr rfl) (Nat.le_of_ble_eq_true rfl) (Nat.le_of_ble_eq_true rfl) (by rw [fX8_supports_l, if_pos qc_1] <;> rfl) rfl
    · refine x_aload_n (pc2 := 11) C dX8_supports_10 1 rfl rfl rfl ?_
      refine x_iload_n (pc2 := 12) C dX8_supports_11 0 rfl rfl rfl ?_
      refine x_ret (rest := []) (st2 := [_]) (pc2 := 15) (cu2 := 0) (su2 := 0) (x_cV C (by assumption) (Nat.le_of_ble_eq_true rfl) kmX8_voteAt rfl kk_8_32 (tX8_voteAt hok (by assumption)) rfl rfl (Nat.le_of_ble_eq_true rfl) ⟨Nat.le_of_ble_eq_true rfl, Nat.le_of_ble_eq_true rfl⟩ ⟨Nat.le_of_ble_eq_true rfl, Nat.le_of_ble_eq_true rfl⟩ dX8_supports_12) rfl rfl rfl rfl ?_
      have qd_2 := D_voteAt hok (Ω := Ω) (by assumption) (x1 := (nI k))
      refine x_astore_n (pc2 := 16) (lv2 := [(3, _), (2, _), (0, _), (1, _)]) C dX8_supports_15 rfl (by decide) rfl rfl ?_
      refine x_aload_n (pc2 := 17) C dX8_supports_16 0 rfl rfl rfl ?_
      refine x_getI (pc2 := 20) (f := 900) C (by assumption) kf_8_48 dX8_supports_17 rfl rfl rfl ?_
      refine x_aload_n (pc2 := 21) C dX8_supports_20 3 rfl rfl rfl ?_
      refine x_getI (pc2 := 24) (f := 900) C (by assumption) kf_8_48 dX8_supports_21 rfl rfl rfl ?_
      refine x_icmp_ne (tgt := 40) (pc2 := 27) C dX8_supports_24 (by decide) rfl (fun qc_3 => ?_) (fun qc_3 => ?_)
      · refine x_iinc (pc2 := 43) (v := nI (k + 1)) (lv2 := [(2, _), (3, _), (0, _), (1, _)]) C dX8_supports_40 1 rfl (nI_1 _) (by decide) rfl rfl ?_
        refine x_goto (tgt := 2) C dX8_supports_43 (by decide) ?_
        exact x_sub (lv2 := [(2, _), (0, _), (1, _)]) C [0, 2, 3] rfl (ih (k + 1) (by show (fX8_countingVotes Ω i).toNatClampNeg + 1 ≤ k + 1 + n; have h9 := x_lt hk (by assumption); omega) (by show k + 1 ≤ (fX8_countingVotes Ω i).toNatClampNeg; have h9 := x_lt hk (by assumption); omega) (XC_to C (by rw [fX8_supports_l, if_neg qc_1, if_neg qc_3] <;> rfl) rfl))
      · refine x_aload_n (pc2 := 28) C dX8_supports_27 0 rfl rfl rfl ?_
        refine x_getI (pc2 := 31) (f := 901) C (by assumption) kf_8_51 dX8_supports_28 rfl rfl rfl ?_
        refine x_aload_n (pc2 := 32) C dX8_supports_31 3 rfl rfl rfl ?_
        refine x_getI (pc2 := 35) (f := 901) C (by assumption) kf_8_51 dX8_supports_32 rfl rfl rfl ?_
        refine x_icmp_ne (tgt := 40) (pc2 := 38) C dX8_supports_35 (by decide) rfl (fun qc_4 => ?_) (fun qc_4 => ?_)
        · refine x_iinc (pc2 := 43) (v := nI (k + 1)) (lv2 := [(2, _), (3, _), (0, _), (1, _)]) C dX8_supports_40 1 rfl (nI_1 _) (by decide) rfl rfl ?_
          refine x_goto (tgt := 2) C dX8_supports_43 (by decide) ?_
          exact x_sub (lv2 := [(2, _), (0, _), (1, _)]) C [0, 2, 3] rfl (ih (k + 1) (by show (fX8_countingVotes Ω i).toNatClampNeg + 1 ≤ k + 1 + n; have h9 := x_lt hk (by assumption); omega) (by show k + 1 ≤ (fX8_countingVotes Ω i).toNatClampNeg; have h9 := x_lt hk (by assumption); omega) (XC_to C (by rw [fX8_supports_l, if_neg qc_1, if_pos qc_3, if_neg qc_4] <;> rfl) rfl))
        · refine x_iconst (pc2 := 39) (v := 1) C dX8_supports_38 rfl rfl ?_
          exact x_zreturn C dX8_supports_39 rfl (by first | exact Or.inl rfl | exact Or.inr rfl) (Nat.le_of_ble_eq_true rfl) (Nat.le_of_ble_eq_true rfl) (by rw [fX8_supports_l, if_neg qc_1, if_pos qc_3, if_pos qc_4] <;> rfl) rfl
set_option maxRecDepth 20000 in
theorem tX8_supports {G : XG} (hok : XK G) {i : Nat} {i1 : Nat} {Ω : XO} (hd0 : dm G 8 i) (hd1 : dm G 9 i1)  : XM G yX8_supports cX8_supports 4 ((some FieldType.boolean)) (RM 2 0) [.ref (ad G 8 i), .ref (ad G 9 i1)] Ω (.inl (some (.int (fX8_supports Ω i i1)))) Ω := by
  refine x_start (lv := [(0, .ref (ad G 8 i)), (1, .ref (ad G 9 i1))]) (own := RX8) hok (by decide +kernel) rfl (Nat.le_of_ble_eq_true rfl) rfl (fun B C => ?_)
  refine x_iconst (pc2 := 1) (v := 0) C dX8_supports_0 rfl rfl ?_
  refine x_istore_n (pc2 := 2) (lv2 := [(2, _), (0, _), (1, _)]) C dX8_supports_1 rfl (by decide) rfl rfl ?_
  exact x_sub (lv2 := [(2, _), (0, _), (1, _)]) C [0, 1, 2] rfl (lX8_supports hok (by assumption) (by assumption) ((fX8_countingVotes Ω i).toNatClampNeg + 1) 0 (by omega) (by omega) (XC_to C (by rw [fX8_supports] <;> rfl) rfl))

def fX1_admit_l  (i : Nat) (i1 : Nat) : Nat → Nat → Int32 → Nat → XO → Int32 × XO
  | 0, _, _, _, Ω => (0, Ω)
  | n + 1, k, y3, y2, Ω => (if (nI (alen 2003)) ≤ (nI k) then (if y3 = 0 then (if (fX1_countWaiting Ω i) < (10 : Int32) then (xI (uI (uI Ω 712 i1 0 (1 : Int32)) 103 i 0 ((xI (uI Ω 712 i1 0 (1 : Int32)) 103 i 0) + (1 : Int32))) 700 i1 0, uI (uI Ω 712 i1 0 (1 : Int32)) 103 i 0 ((xI (uI Ω 712 i1 0 (1 : Int32)) 103 i 0) + (1 : Int32))) else (if ((fX1_throwOutFor Ω i i1 y2).1) = 0 then ((-1 : Int32), (fX1_throwOutFor Ω i i1 y2).2) else (xI (uI (uI ((fX1_throwOutFor Ω i i1 y2).2) 712 i1 0 (1 : Int32)) 103 i 0 ((xI (uI ((fX1_throwOutFor Ω i i1 y2).2) 712 i1 0 (1 : Int32)) 103 i 0) + (1 : Int32))) 700 i1 0, uI (uI ((fX1_throwOutFor Ω i i1 y2).2) 712 i1 0 (1 : Int32)) 103 i 0 ((xI (uI ((fX1_throwOutFor Ω i i1 y2).2) 712 i1 0 (1 : Int32)) 103 i 0) + (1 : Int32))))) else (xI (uI (uI (fX1_dropRivals Ω i i1 y2) 712 i1 0 (1 : Int32)) 103 i 0 ((xI (uI (fX1_dropRivals Ω i i1 y2) 712 i1 0 (1 : Int32)) 103 i 0) + (1 : Int32))) 700 i1 0, uI (uI (fX1_dropRivals Ω i i1 y2) 712 i1 0 (1 : Int32)) 103 i 0 ((xI (uI (fX1_dropRivals Ω i i1 y2) 712 i1 0 (1 : Int32)) 103 i 0) + (1 : Int32)))) else (if (fX7_waitsBehind Ω (40 * i + (nI k).toNatClampNeg) y2) = 0 then fX1_admit_l i i1 n (k + 1) y3 y2 Ω else (if (fX7_rivals Ω (40 * i + (nI k).toNatClampNeg) i1) = 0 then fX1_admit_l i i1 n (k + 1) y3 y2 Ω else (if (fX7_outbids Ω i1 (40 * i + (nI k).toNatClampNeg)) = 0 then ((-1 : Int32), Ω) else fX1_admit_l i i1 n (k + 1) (1 : Int32) y2 Ω))))
def fX1_admit (Ω : XO) (i : Nat) (i1 : Nat) : Int32 × XO := fX1_admit_l i i1 ((nI (alen 2003)).toNatClampNeg + 1) 0 (0 : Int32) (fX1_headBlock Ω i) Ω
set_option maxRecDepth 20000 in
theorem lX1_admit {G : XG} (hok : XK G) {B : XB} {i : Nat} {i1 : Nat} (hd0 : dm G 1 i) (hd1 : dm G 7 i1) (hq4 : dm G 2003 i)   : ∀ (n k : Nat) (y3 : Int32) (y2 : Nat) (Ω : XO), dm G 0 y2 → (nI (alen 2003)).toNatClampNeg + 1 ≤ k + n → k ≤ (nI (alen 2003)).toNatClampNeg → XC G B cX1_admit RX1 (RM 4 0) 8 ((some FieldType.int)) (.inl (some (.int ((fX1_admit_l i i1 n k y3 y2 Ω).1)))) (fX1_admit_l i i1 n k y3 y2 Ω).2 → XW G B 8 21 [(6, .int (nI k)), (5, .int (nI (alen 2003))), (4, .ref (ad G 2003 (i))), (3, .int (y3)), (2, .ref (ad G 0 (y2))), (0, .ref (ad G 1 (i))), (1, .ref (ad G 7 (i1)))] [] Ω 0 0 := by
  intro n
  induction n with
  | zero => intro k y3 y2 Ω hv2 h1 h2; exact absurd h1 (by omega)
  | succ n ih =>
    intro k y3 y2 Ω hv2 h1 hk C
    refine x_iload (pc2 := 23) C dX1_admit_21 0 rfl rfl ?_
    refine x_iload (pc2 := 25) C dX1_admit_23 1 rfl rfl ?_
    refine x_icmp_ge (tgt := 72) (pc2 := 28) C dX1_admit_25 (by decide) rfl (fun qc_1 => ?_) (fun qc_1 => ?_)
    · refine x_iload_n (pc2 := 73) C dX1_admit_72 3 rfl rfl rfl ?_
      refine x_if_eq (tgt := 85) (pc2 := 76) C dX1_admit_73 (by decide) rfl (fun qc_2 => ?_) (fun qc_2 => ?_)
      · refine x_aload_n (pc2 := 86) C dX1_admit_85 5 rfl rfl rfl ?_
        refine x_ret (rest := []) (st2 := [_]) (pc2 := 89) (cu2 := 0) (su2 := 0) (x_cV C (by assumption) (Nat.le_of_ble_eq_true rfl) kmX1_countWaiting rfl kk_1_86 (tX1_countWaiting hok (by assumption)) rfl rfl (Nat.le_of_ble_eq_true rfl) ⟨Nat.le_of_ble_eq_true rfl, Nat.le_of_ble_eq_true rfl⟩ ⟨Nat.le_of_ble_eq_true rfl, Nat.le_of_ble_eq_true rfl⟩ dX1_admit_86) rfl rfl rfl rfl ?_
        refine x_bipush (pc2 := 91) (v := 10) C dX1_admit_89 rfl rfl ?_
        refine x_icmp_lt (tgt := 105) (pc2 := 94) C dX1_admit_91 (by decide) rfl (fun qc_3 => ?_) (fun qc_3 => ?_)
        · refine x_aload_n (pc2 := 106) C dX1_admit_105 6 rfl rfl rfl ?_
          refine x_iconst (pc2 := 107) (v := 1) C dX1_admit_106 rfl rfl ?_
          refine x_putZ (pc2 := 110) (f := 712) C (by assumption) kf_1_94 dX1_admit_107 rfl rfl rfl (by first | exact Or.inl rfl | exact Or.inr rfl) rfl rfl ?_
          refine x_aload_n (pc2 := 111) C dX1_admit_110 5 rfl rfl rfl ?_
          refine x_dup (pc2 := 112) C dX1_admit_111 rfl rfl ?_
          refine x_getI (pc2 := 115) (f := 103) C (by assumption) kf_1_68 dX1_admit_112 rfl rfl rfl ?_
          refine x_iconst (pc2 := 116) (v := 1) C dX1_admit_115 rfl rfl ?_
          refine x_iadd (pc2 := 117) C dX1_admit_116 rfl ?_
          refine x_putI (pc2 := 120) (f := 103) C (by assumption) kf_1_68 dX1_admit_117 rfl rfl rfl rfl rfl ?_
          refine x_aload_n (pc2 := 121) C dX1_admit_120 6 rfl rfl rfl ?_
          refine x_getI (pc2 := 124) (f := 700) C (by assumption) kf_1_98 dX1_admit_121 rfl rfl rfl ?_
          exact x_ireturn C dX1_admit_124 rfl (Nat.le_of_ble_eq_true rfl) (Nat.le_of_ble_eq_true rfl) (by rw [fX1_admit_l, if_pos qc_1, if_pos qc_2, if_pos qc_3] <;> rfl) (by rw [fX1_admit_l, if_pos qc_1, if_pos qc_2, if_pos qc_3] <;> rfl)
        · refine x_aload_n (pc2 := 95) C dX1_admit_94 5 rfl rfl rfl ?_
          refine x_aload_n (pc2 := 96) C dX1_admit_95 6 rfl rfl rfl ?_
          refine x_aload_n (pc2 := 97) C dX1_admit_96 4 rfl rfl rfl ?_
          refine x_ret (rest := []) (st2 := [_]) (pc2 := 100) (cu2 := 0) (su2 := 0) (x_cV C (by assumption) (Nat.le_of_ble_eq_true rfl) kmX1_throwOutFor rfl kk_1_90 (tX1_throwOutFor hok (by assumption) (by assumption) (by assumption)) rfl rfl (Nat.le_of_ble_eq_true rfl) ⟨Nat.le_of_ble_eq_true rfl, Nat.le_of_ble_eq_true rfl⟩ ⟨Nat.le_of_ble_eq_true rfl, Nat.le_of_ble_eq_true rfl⟩ dX1_admit_97) rfl rfl rfl rfl ?_
          refine x_if_ne (tgt := 105) (pc2 := 103) C dX1_admit_100 (by decide) rfl (fun qc_4 => ?_) (fun qc_4 => ?_)
          · refine x_aload_n (pc2 := 106) C dX1_admit_105 6 rfl rfl rfl ?_
            refine x_iconst (pc2 := 107) (v := 1) C dX1_admit_106 rfl rfl ?_
            refine x_putZ (pc2 := 110) (f := 712) C (by assumption) kf_1_94 dX1_admit_107 rfl rfl rfl (by first | exact Or.inl rfl | exact Or.inr rfl) rfl rfl ?_
            refine x_aload_n (pc2 := 111) C dX1_admit_110 5 rfl rfl rfl ?_
            refine x_dup (pc2 := 112) C dX1_admit_111 rfl rfl ?_
            refine x_getI (pc2 := 115) (f := 103) C (by assumption) kf_1_68 dX1_admit_112 rfl rfl rfl ?_
            refine x_iconst (pc2 := 116) (v := 1) C dX1_admit_115 rfl rfl ?_
            refine x_iadd (pc2 := 117) C dX1_admit_116 rfl ?_
            refine x_putI (pc2 := 120) (f := 103) C (by assumption) kf_1_68 dX1_admit_117 rfl rfl rfl rfl rfl ?_
            refine x_aload_n (pc2 := 121) C dX1_admit_120 6 rfl rfl rfl ?_
            refine x_getI (pc2 := 124) (f := 700) C (by assumption) kf_1_98 dX1_admit_121 rfl rfl rfl ?_
            exact x_ireturn C dX1_admit_124 rfl (Nat.le_of_ble_eq_true rfl) (Nat.le_of_ble_eq_true rfl) (by rw [fX1_admit_l, if_pos qc_1, if_pos qc_2, if_neg qc_3, if_neg qc_4] <;> rfl) (by rw [fX1_admit_l, if_pos qc_1, if_pos qc_2, if_neg qc_3, if_neg qc_4] <;> rfl)
          · refine x_iconst (pc2 := 104) (v := (-1)) C dX1_admit_103 rfl rfl ?_
            exact x_ireturn C dX1_admit_104 rfl (Nat.le_of_ble_eq_true rfl) (Nat.le_of_ble_eq_true rfl) (by rw [fX1_admit_l, if_pos qc_1, if_pos qc_2, if_neg qc_3, if_pos qc_4] <;> rfl) (by rw [fX1_admit_l, if_pos qc_1, if_pos qc_2, if_neg qc_3, if_pos qc_4] <;> rfl)
      · refine x_aload_n (pc2 := 77) C dX1_admit_76 5 rfl rfl rfl ?_
        refine x_aload_n (pc2 := 78) C dX1_admit_77 6 rfl rfl rfl ?_
        refine x_aload_n (pc2 := 79) C dX1_admit_78 4 rfl rfl rfl ?_
        refine x_ret (rest := []) (st2 := []) (pc2 := 82) (cu2 := 0) (su2 := 0) (x_cV C (by assumption) (Nat.le_of_ble_eq_true rfl) kmX1_dropRivals rfl kk_1_82 (tX1_dropRivals hok (by assumption) (by assumption) (by assumption)) rfl rfl (Nat.le_of_ble_eq_true rfl) ⟨Nat.le_of_ble_eq_true rfl, Nat.le_of_ble_eq_true rfl⟩ ⟨Nat.le_of_ble_eq_true rfl, Nat.le_of_ble_eq_true rfl⟩ dX1_admit_79) rfl rfl rfl rfl ?_
        refine x_goto (tgt := 105) C dX1_admit_82 (by decide) ?_
        refine x_aload_n (pc2 := 106) C dX1_admit_105 6 rfl rfl rfl ?_
        refine x_iconst (pc2 := 107) (v := 1) C dX1_admit_106 rfl rfl ?_
        refine x_putZ (pc2 := 110) (f := 712) C (by assumption) kf_1_94 dX1_admit_107 rfl rfl rfl (by first | exact Or.inl rfl | exact Or.inr rfl) rfl rfl ?_
        refine x_aload_n (pc2 := 111) C dX1_admit_110 5 rfl rfl rfl ?_
        refine x_dup (pc2 := 112) C dX1_admit_111 rfl rfl ?_
        refine x_getI (pc2 := 115) (f := 103) C (by assumption) kf_1_68 dX1_admit_112 rfl rfl rfl ?_
        refine x_iconst (pc2 := 116) (v := 1) C dX1_admit_115 rfl rfl ?_
        refine x_iadd (pc2 := 117) C dX1_admit_116 rfl ?_
        refine x_putI (pc2 := 120) (f := 103) C (by assumption) kf_1_68 dX1_admit_117 rfl rfl rfl rfl rfl ?_
        refine x_aload_n (pc2 := 121) C dX1_admit_120 6 rfl rfl rfl ?_
        refine x_getI (pc2 := 124) (f := 700) C (by assumption) kf_1_98 dX1_admit_121 rfl rfl rfl ?_
        exact x_ireturn C dX1_admit_124 rfl (Nat.le_of_ble_eq_true rfl) (Nat.le_of_ble_eq_true rfl) (by rw [fX1_admit_l, if_pos qc_1, if_neg qc_2] <;> rfl) (by rw [fX1_admit_l, if_pos qc_1, if_neg qc_2] <;> rfl)
    · refine x_aload (pc2 := 30) C dX1_admit_28 2 rfl rfl ?_
      refine x_iload (pc2 := 32) C dX1_admit_30 0 rfl rfl ?_
      refine x_aald (k2 := 7) (pc2 := 33) C (by assumption) dX1_admit_32 rfl rfl (by first | exact x_inK (by assumption) (by assumption) | exact x_in (by assumption) (by assumption) (by decide)) rfl (eli_2003 _ _) rfl (fun qd_5 => ?_)
      refine x_astore (pc2 := 35) (lv2 := [(7, _), (6, _), (5, _), (4, _), (3, _), (2, _), (0, _), (1, _)]) C dX1_admit_33 (by decide) rfl rfl ?_
      refine x_aload (pc2 := 37) C dX1_admit_35 0 rfl rfl ?_
      refine x_aload_n (pc2 := 38) C dX1_admit_37 5 rfl rfl rfl ?_
      refine x_ret (rest := []) (st2 := [_]) (pc2 := 41) (cu2 := 0) (su2 := 0) (x_cV C (by assumption) (Nat.le_of_ble_eq_true rfl) kmX7_waitsBehind rfl kk_1_65 (tX7_waitsBehind hok (by assumption) (by assumption)) rfl rfl (Nat.le_of_ble_eq_true rfl) ⟨Nat.le_of_ble_eq_true rfl, Nat.le_of_ble_eq_true rfl⟩ ⟨Nat.le_of_ble_eq_true rfl, Nat.le_of_ble_eq_true rfl⟩ dX1_admit_38) rfl rfl rfl rfl ?_
      refine x_if_eq (tgt := 66) (pc2 := 44) C dX1_admit_41 (by decide) rfl (fun qc_6 => ?_) (fun qc_6 => ?_)
      · refine x_iinc (pc2 := 69) (v := nI (k + 1)) (lv2 := [(6, _), (7, _), (5, _), (4, _), (3, _), (2, _), (0, _), (1, _)]) C dX1_admit_66 1 rfl (nI_1 _) (by decide) rfl rfl ?_
        refine x_goto (tgt := 21) C dX1_admit_69 (by decide) ?_
        exact x_sub (lv2 := [(6, _), (5, _), (4, _), (3, _), (2, _), (0, _), (1, _)]) C [0, 2, 3, 4, 5, 6, 7] rfl (ih (k + 1) _ _ _ (by assumption) (by show (nI (alen 2003)).toNatClampNeg + 1 ≤ k + 1 + n; have h9 := x_lt hk (by assumption); omega) (by show k + 1 ≤ (nI (alen 2003)).toNatClampNeg; have h9 := x_lt hk (by assumption); omega) (XC_to C (by rw [fX1_admit_l, if_neg qc_1, if_pos qc_6] <;> rfl) (by rw [fX1_admit_l, if_neg qc_1, if_pos qc_6] <;> rfl)))
      · refine x_aload (pc2 := 46) C dX1_admit_44 0 rfl rfl ?_
        refine x_aload_n (pc2 := 47) C dX1_admit_46 7 rfl rfl rfl ?_
        refine x_ret (rest := []) (st2 := [_]) (pc2 := 50) (cu2 := 0) (su2 := 0) (x_cV C (by assumption) (Nat.le_of_ble_eq_true rfl) kmX7_rivals rfl kk_1_75 (tX7_rivals hok (by assumption) (by assumption)) rfl rfl (Nat.le_of_ble_eq_true rfl) ⟨Nat.le_of_ble_eq_true rfl, Nat.le_of_ble_eq_true rfl⟩ ⟨Nat.le_of_ble_eq_true rfl, Nat.le_of_ble_eq_true rfl⟩ dX1_admit_47) rfl rfl rfl rfl ?_
        refine x_if_eq (tgt := 66) (pc2 := 53) C dX1_admit_50 (by decide) rfl (fun qc_7 => ?_) (fun qc_7 => ?_)
        · refine x_iinc (pc2 := 69) (v := nI (k + 1)) (lv2 := [(6, _), (7, _), (5, _), (4, _), (3, _), (2, _), (0, _), (1, _)]) C dX1_admit_66 1 rfl (nI_1 _) (by decide) rfl rfl ?_
          refine x_goto (tgt := 21) C dX1_admit_69 (by decide) ?_
          exact x_sub (lv2 := [(6, _), (5, _), (4, _), (3, _), (2, _), (0, _), (1, _)]) C [0, 2, 3, 4, 5, 6, 7] rfl (ih (k + 1) _ _ _ (by assumption) (by show (nI (alen 2003)).toNatClampNeg + 1 ≤ k + 1 + n; have h9 := x_lt hk (by assumption); omega) (by show k + 1 ≤ (nI (alen 2003)).toNatClampNeg; have h9 := x_lt hk (by assumption); omega) (XC_to C (by rw [fX1_admit_l, if_neg qc_1, if_neg qc_6, if_pos qc_7] <;> rfl) (by rw [fX1_admit_l, if_neg qc_1, if_neg qc_6, if_pos qc_7] <;> rfl)))
        · refine x_aload_n (pc2 := 54) C dX1_admit_53 7 rfl rfl rfl ?_
          refine x_aload (pc2 := 56) C dX1_admit_54 0 rfl rfl ?_
          refine x_ret (rest := []) (st2 := [_]) (pc2 := 59) (cu2 := 0) (su2 := 0) (x_cV C (by assumption) (Nat.le_of_ble_eq_true rfl) kmX7_outbids rfl kk_1_79 (tX7_outbids hok (by assumption) (by assumption)) rfl rfl (Nat.le_of_ble_eq_true rfl) ⟨Nat.le_of_ble_eq_true rfl, Nat.le_of_ble_eq_true rfl⟩ ⟨Nat.le_of_ble_eq_true rfl, Nat.le_of_ble_eq_true rfl⟩ dX1_admit_56) rfl rfl rfl rfl ?_
          refine x_if_ne (tgt := 64) (pc2 := 62) C dX1_admit_59 (by decide) rfl (fun qc_8 => ?_) (fun qc_8 => ?_)
          · refine x_iconst (pc2 := 65) (v := 1) C dX1_admit_64 rfl rfl ?_
            refine x_istore_n (pc2 := 66) (lv2 := [(3, _), (7, _), (6, _), (5, _), (4, _), (2, _), (0, _), (1, _)]) C dX1_admit_65 rfl (by decide) rfl rfl ?_
            refine x_iinc (pc2 := 69) (v := nI (k + 1)) (lv2 := [(6, _), (3, _), (7, _), (5, _), (4, _), (2, _), (0, _), (1, _)]) C dX1_admit_66 2 rfl (nI_1 _) (by decide) rfl rfl ?_
            refine x_goto (tgt := 21) C dX1_admit_69 (by decide) ?_
            exact x_sub (lv2 := [(6, _), (5, _), (4, _), (3, _), (2, _), (0, _), (1, _)]) C [0, 3, 4, 1, 5, 6, 7] rfl (ih (k + 1) _ _ _ (by assumption) (by show (nI (alen 2003)).toNatClampNeg + 1 ≤ k + 1 + n; have h9 := x_lt hk (by assumption); omega) (by show k + 1 ≤ (nI (alen 2003)).toNatClampNeg; have h9 := x_lt hk (by assumption); omega) (XC_to C (by rw [fX1_admit_l, if_neg qc_1, if_neg qc_6, if_neg qc_7, if_neg qc_8] <;> rfl) (by rw [fX1_admit_l, if_neg qc_1, if_neg qc_6, if_neg qc_7, if_neg qc_8] <;> rfl)))
          · refine x_iconst (pc2 := 63) (v := (-1)) C dX1_admit_62 rfl rfl ?_
            exact x_ireturn C dX1_admit_63 rfl (Nat.le_of_ble_eq_true rfl) (Nat.le_of_ble_eq_true rfl) (by rw [fX1_admit_l, if_neg qc_1, if_neg qc_6, if_neg qc_7, if_pos qc_8] <;> rfl) (by rw [fX1_admit_l, if_neg qc_1, if_neg qc_6, if_neg qc_7, if_pos qc_8] <;> rfl)
set_option maxRecDepth 20000 in
theorem tX1_admit {G : XG} (hok : XK G) {i : Nat} {i1 : Nat} {Ω : XO} (hd0 : dm G 1 i) (hd1 : dm G 7 i1)  : XM G yX1_admit cX1_admit 8 ((some FieldType.int)) (RM 4 0) [.ref (ad G 1 i), .ref (ad G 7 i1)] Ω (.inl (some (.int ((fX1_admit Ω i i1).1)))) (fX1_admit Ω i i1).2 := by
  refine x_start (lv := [(0, .ref (ad G 1 i)), (1, .ref (ad G 7 i1))]) (own := RX1) hok (by decide +kernel) rfl (Nat.le_of_ble_eq_true rfl) rfl (fun B C => ?_)
  refine x_aload_n (pc2 := 1) C dX1_admit_0 0 rfl rfl rfl ?_
  refine x_ret (rest := []) (st2 := [_]) (pc2 := 4) (cu2 := 0) (su2 := 0) (x_cV C (by assumption) (Nat.le_of_ble_eq_true rfl) kmX1_headBlock rfl kk_1_62 (tX1_headBlock hok (by assumption)) rfl rfl (Nat.le_of_ble_eq_true rfl) ⟨Nat.le_of_ble_eq_true rfl, Nat.le_of_ble_eq_true rfl⟩ ⟨Nat.le_of_ble_eq_true rfl, Nat.le_of_ble_eq_true rfl⟩ dX1_admit_1) rfl rfl rfl rfl ?_
  have qd_1 := D_headBlock hok (Ω := Ω) (by assumption)
  refine x_astore_n (pc2 := 5) (lv2 := [(2, _), (0, _), (1, _)]) C dX1_admit_4 rfl (by decide) rfl rfl ?_
  refine x_iconst (pc2 := 6) (v := 0) C dX1_admit_5 rfl rfl ?_
  refine x_istore_n (pc2 := 7) (lv2 := [(3, _), (2, _), (0, _), (1, _)]) C dX1_admit_6 rfl (by decide) rfl rfl ?_
  refine x_aload_n (pc2 := 8) C dX1_admit_7 2 rfl rfl rfl ?_
  refine x_getR (f := 102) (k2 := 2003) (pc2 := 11) C (by assumption) kf_1_23 dX1_admit_8 rfl rfl rfl (rti_i rfl) rfl (fun qd_2 => ?_)
  refine x_astore (pc2 := 13) (lv2 := [(4, _), (3, _), (2, _), (0, _), (1, _)]) C dX1_admit_11 (by decide) rfl rfl ?_
  refine x_aload (pc2 := 15) C dX1_admit_13 0 rfl rfl ?_
  refine x_alen (pc2 := 16) C (by assumption) dX1_admit_15 rfl rfl rfl ?_
  refine x_istore (pc2 := 18) (lv2 := [(5, _), (4, _), (3, _), (2, _), (0, _), (1, _)]) C dX1_admit_16 (by decide) rfl rfl ?_
  refine x_iconst (pc2 := 19) (v := 0) C dX1_admit_18 rfl rfl ?_
  refine x_istore (pc2 := 21) (lv2 := [(6, _), (5, _), (4, _), (3, _), (2, _), (0, _), (1, _)]) C dX1_admit_19 (by decide) rfl rfl ?_
  exact x_sub (lv2 := [(6, _), (5, _), (4, _), (3, _), (2, _), (0, _), (1, _)]) C [0, 1, 2, 3, 4, 5, 6] rfl (lX1_admit hok (by assumption) (by assumption) (by assumption) ((nI (alen 2003)).toNatClampNeg + 1) 0 _ _ _ (by assumption) (by omega) (by omega) (XC_to C (by rw [fX1_admit] <;> rfl) (by rw [fX1_admit] <;> rfl)))
theorem R_fX1_admit_l (i : Nat) (i1 : Nat) : ∀ (n k : Nat) (y3 : Int32) (y2 : Nat) (Ω : XO), xR (fX1_admit_l i i1 n k y3 y2 Ω).2 = xR Ω := by
  intro n
  induction n with
  | zero => intros; rfl
  | succ n ih =>
    intros
    rw [fX1_admit_l]
    (repeat' split) <;> first | rfl | (rw [ih]; done) | (rw [ih]; rfl) | (rw [ih]; funext a b9; simp only [R_uI, R_uL, R_cI, R_sPut, R_fX0_imitate, R_fX0_enter, R_fX0_addEvent, R_fX3_take, R_fX3_push, R_fX3_reach, R_fX5_append, R_fX6_copyFrom, R_fX6_gain, R_fX6_move, R_fX6_raiseNonce, R_fX7_order, R_fX7_bid, R_fX7_nameLock, R_fX9_become, R_fX0_follow, R_fX3_save, R_fX1_dropRivals_l, R_fX1_dropRivals, R_fX1_throwOutFor_l, R_fX1_throwOutFor, R_fX1_dropLower_l, R_fX1_dropLower, R_fX3_open_l, R_fX3_open, R_fX6_dropProgram_l, R_fX6_dropProgram, R_fX8_give_l, R_fX8_give]) | (funext a b9; simp only [R_uI, R_uL, R_cI, R_sPut, R_fX0_imitate, R_fX0_enter, R_fX0_addEvent, R_fX3_take, R_fX3_push, R_fX3_reach, R_fX5_append, R_fX6_copyFrom, R_fX6_gain, R_fX6_move, R_fX6_raiseNonce, R_fX7_order, R_fX7_bid, R_fX7_nameLock, R_fX9_become, R_fX0_follow, R_fX3_save, R_fX1_dropRivals_l, R_fX1_dropRivals, R_fX1_throwOutFor_l, R_fX1_throwOutFor, R_fX1_dropLower_l, R_fX1_dropLower, R_fX3_open_l, R_fX3_open, R_fX6_dropProgram_l, R_fX6_dropProgram, R_fX8_give_l, R_fX8_give])
theorem R_fX1_admit (Ω : XO) (i : Nat) (i1 : Nat) : xR (fX1_admit Ω i i1).2 = xR Ω := by
  unfold fX1_admit
  (repeat' split) <;> first | rfl | (funext a b9; simp only [R_uI, R_uL, R_cI, R_sPut, R_fX0_imitate, R_fX0_enter, R_fX0_addEvent, R_fX3_take, R_fX3_push, R_fX3_reach, R_fX5_append, R_fX6_copyFrom, R_fX6_gain, R_fX6_move, R_fX6_raiseNonce, R_fX7_order, R_fX7_bid, R_fX7_nameLock, R_fX9_become, R_fX0_follow, R_fX3_save, R_fX1_dropRivals_l, R_fX1_dropRivals, R_fX1_throwOutFor_l, R_fX1_throwOutFor, R_fX1_dropLower_l, R_fX1_dropLower, R_fX3_open_l, R_fX3_open, R_fX6_dropProgram_l, R_fX6_dropProgram, R_fX8_give_l, R_fX8_give, R_fX1_admit_l])

def fX2_carries_l (Ω : XO) (i : Nat) (i1 : Nat) : Nat → Nat → Int32 → Int32 → Int32
  | 0, _, _, _ => 0
  | n + 1, k, y3, y2 => (if (nI (alen 2004)) ≤ (nI k) then (if ((3 : Int32) * y3) < ((2 : Int32) * y2) then (0 : Int32) else (1 : Int32)) else (if (fX8_supports Ω (4 * i + (nI k).toNatClampNeg) i1) = 0 then fX2_carries_l Ω i i1 n (k + 1) (y3 + (0 : Int32)) (y2 + (fX8_stakeNow Ω (4 * i + (nI k).toNatClampNeg))) else fX2_carries_l Ω i i1 n (k + 1) (y3 + (fX8_stakeNow Ω (4 * i + (nI k).toNatClampNeg))) (y2 + (fX8_stakeNow Ω (4 * i + (nI k).toNatClampNeg)))))
def fX2_carries (Ω : XO) (i : Nat) (i1 : Nat) : Int32 := fX2_carries_l Ω i i1 ((nI (alen 2004)).toNatClampNeg + 1) 0 (0 : Int32) (0 : Int32)
set_option maxRecDepth 20000 in
theorem lX2_carries {G : XG} (hok : XK G) {B : XB} {i : Nat} {i1 : Nat} {Ω : XO} (hd0 : dm G 2 i) (hd1 : dm G 9 i1) (hq4 : dm G 2004 i)   : ∀ (n k : Nat) (y3 : Int32) (y2 : Int32), (nI (alen 2004)).toNatClampNeg + 1 ≤ k + n → k ≤ (nI (alen 2004)).toNatClampNeg → XC G B cX2_carries RX2 (RM 3 0) 8 ((some FieldType.boolean)) (.inl (some (.int (fX2_carries_l Ω i i1 n k y3 y2)))) Ω → XW G B 8 18 [(6, .int (nI k)), (5, .int (nI (alen 2004))), (4, .ref (ad G 2004 (i))), (3, .int (y3)), (2, .int (y2)), (0, .ref (ad G 2 (i))), (1, .ref (ad G 9 (i1)))] [] Ω 0 0 := by
  intro n
  induction n with
  | zero => intro k y3 y2 h1 h2; exact absurd h1 (by omega)
  | succ n ih =>
    intro k y3 y2 h1 hk C
    refine x_iload (pc2 := 20) C dX2_carries_18 0 rfl rfl ?_
    refine x_iload (pc2 := 22) C dX2_carries_20 1 rfl rfl ?_
    refine x_icmp_ge (tgt := 67) (pc2 := 25) C dX2_carries_22 (by decide) rfl (fun qc_1 => ?_) (fun qc_1 => ?_)
    · refine x_iconst (pc2 := 68) (v := 3) C dX2_carries_67 rfl rfl ?_
      refine x_iload_n (pc2 := 69) C dX2_carries_68 3 rfl rfl rfl ?_
      refine x_imul (pc2 := 70) C dX2_carries_69 rfl ?_
      refine x_iconst (pc2 := 71) (v := 2) C dX2_carries_70 rfl rfl ?_
      refine x_iload_n (pc2 := 72) C dX2_carries_71 4 rfl rfl rfl ?_
      refine x_imul (pc2 := 73) C dX2_carries_72 rfl ?_
      refine x_icmp_lt (tgt := 80) (pc2 := 76) C dX2_carries_73 (by decide) rfl (fun qc_2 => ?_) (fun qc_2 => ?_)
      · refine x_iconst (pc2 := 81) (v := 0) C dX2_carries_80 rfl rfl ?_
        exact x_zreturn C dX2_carries_81 rfl (by first | exact Or.inl rfl | exact Or.inr rfl) (Nat.le_of_ble_eq_true rfl) (Nat.le_of_ble_eq_true rfl) (by rw [fX2_carries_l, if_pos qc_1, if_pos qc_2] <;> rfl) rfl
      · refine x_iconst (pc2 := 77) (v := 1) C dX2_carries_76 rfl rfl ?_
        refine x_goto (tgt := 81) C dX2_carries_77 (by decide) ?_
        exact x_zreturn C dX2_carries_81 rfl (by first | exact Or.inl rfl | exact Or.inr rfl) (Nat.le_of_ble_eq_true rfl) (Nat.le_of_ble_eq_true rfl) (by rw [fX2_carries_l, if_pos qc_1, if_neg qc_2] <;> rfl) rfl
    · refine x_aload (pc2 := 27) C dX2_carries_25 2 rfl rfl ?_
      refine x_iload (pc2 := 29) C dX2_carries_27 0 rfl rfl ?_
      refine x_aald (k2 := 8) (pc2 := 30) C (by assumption) dX2_carries_29 rfl rfl (by first | exact x_inK (by assumption) (by assumption) | exact x_in (by assumption) (by assumption) (by decide)) rfl (eli_2004 _ _) rfl (fun qd_3 => ?_)
      refine x_astore (pc2 := 32) (lv2 := [(7, _), (6, _), (5, _), (4, _), (3, _), (2, _), (0, _), (1, _)]) C dX2_carries_30 (by decide) rfl rfl ?_
      refine x_iload_n (pc2 := 33) C dX2_carries_32 5 rfl rfl rfl ?_
      refine x_aload (pc2 := 35) C dX2_carries_33 0 rfl rfl ?_
      refine x_ret (rest := [_]) (st2 := [_, _]) (pc2 := 38) (cu2 := 0) (su2 := 0) (x_cV C (by assumption) (Nat.le_of_ble_eq_true rfl) kmX8_stakeNow rfl kk_2_60 (tX8_stakeNow hok (by assumption)) rfl rfl (Nat.le_of_ble_eq_true rfl) ⟨Nat.le_of_ble_eq_true rfl, Nat.le_of_ble_eq_true rfl⟩ ⟨Nat.le_of_ble_eq_true rfl, Nat.le_of_ble_eq_true rfl⟩ dX2_carries_35) rfl rfl rfl rfl ?_
      refine x_iadd (pc2 := 39) C dX2_carries_38 rfl ?_
      refine x_istore_n (pc2 := 40) (lv2 := [(2, _), (7, _), (6, _), (5, _), (4, _), (3, _), (0, _), (1, _)]) C dX2_carries_39 rfl (by decide) rfl rfl ?_
      refine x_iload_n (pc2 := 41) C dX2_carries_40 5 rfl rfl rfl ?_
      refine x_aload (pc2 := 43) C dX2_carries_41 1 rfl rfl ?_
      refine x_aload_n (pc2 := 44) C dX2_carries_43 7 rfl rfl rfl ?_
      refine x_ret (rest := [_]) (st2 := [_, _]) (pc2 := 47) (cu2 := 0) (su2 := 0) (x_cV C (by assumption) (Nat.le_of_ble_eq_true rfl) kmX8_supports rfl kk_2_63 (tX8_supports hok (by assumption) (by assumption)) rfl rfl (Nat.le_of_ble_eq_true rfl) ⟨Nat.le_of_ble_eq_true rfl, Nat.le_of_ble_eq_true rfl⟩ ⟨Nat.le_of_ble_eq_true rfl, Nat.le_of_ble_eq_true rfl⟩ dX2_carries_44) rfl rfl rfl rfl ?_
      refine x_if_eq (tgt := 58) (pc2 := 50) C dX2_carries_47 (by decide) rfl (fun qc_4 => ?_) (fun qc_4 => ?_)
      · refine x_iconst (pc2 := 59) (v := 0) C dX2_carries_58 rfl rfl ?_
        refine x_iadd (pc2 := 60) C dX2_carries_59 rfl ?_
        refine x_istore_n (pc2 := 61) (lv2 := [(3, _), (2, _), (7, _), (6, _), (5, _), (4, _), (0, _), (1, _)]) C dX2_carries_60 rfl (by decide) rfl rfl ?_
        refine x_iinc (pc2 := 64) (v := nI (k + 1)) (lv2 := [(6, _), (3, _), (2, _), (7, _), (5, _), (4, _), (0, _), (1, _)]) C dX2_carries_61 3 rfl (nI_1 _) (by decide) rfl rfl ?_
        refine x_goto (tgt := 18) C dX2_carries_64 (by decide) ?_
        exact x_sub (lv2 := [(6, _), (5, _), (4, _), (3, _), (2, _), (0, _), (1, _)]) C [0, 4, 5, 1, 2, 6, 7] rfl (ih (k + 1) _ _ (by show (nI (alen 2004)).toNatClampNeg + 1 ≤ k + 1 + n; have h9 := x_lt hk (by assumption); omega) (by show k + 1 ≤ (nI (alen 2004)).toNatClampNeg; have h9 := x_lt hk (by assumption); omega) (XC_to C (by rw [fX2_carries_l, if_neg qc_1, if_pos qc_4] <;> rfl) rfl))
      · refine x_aload (pc2 := 52) C dX2_carries_50 1 rfl rfl ?_
        refine x_ret (rest := [_]) (st2 := [_, _]) (pc2 := 55) (cu2 := 0) (su2 := 0) (x_cV C (by assumption) (Nat.le_of_ble_eq_true rfl) kmX8_stakeNow rfl kk_2_60 (tX8_stakeNow hok (by assumption)) rfl rfl (Nat.le_of_ble_eq_true rfl) ⟨Nat.le_of_ble_eq_true rfl, Nat.le_of_ble_eq_true rfl⟩ ⟨Nat.le_of_ble_eq_true rfl, Nat.le_of_ble_eq_true rfl⟩ dX2_carries_52) rfl rfl rfl rfl ?_
        refine x_goto (tgt := 59) C dX2_carries_55 (by decide) ?_
        refine x_iadd (pc2 := 60) C dX2_carries_59 rfl ?_
        refine x_istore_n (pc2 := 61) (lv2 := [(3, _), (2, _), (7, _), (6, _), (5, _), (4, _), (0, _), (1, _)]) C dX2_carries_60 rfl (by decide) rfl rfl ?_
        refine x_iinc (pc2 := 64) (v := nI (k + 1)) (lv2 := [(6, _), (3, _), (2, _), (7, _), (5, _), (4, _), (0, _), (1, _)]) C dX2_carries_61 3 rfl (nI_1 _) (by decide) rfl rfl ?_
        refine x_goto (tgt := 18) C dX2_carries_64 (by decide) ?_
        exact x_sub (lv2 := [(6, _), (5, _), (4, _), (3, _), (2, _), (0, _), (1, _)]) C [0, 4, 5, 1, 2, 6, 7] rfl (ih (k + 1) _ _ (by show (nI (alen 2004)).toNatClampNeg + 1 ≤ k + 1 + n; have h9 := x_lt hk (by assumption); omega) (by show k + 1 ≤ (nI (alen 2004)).toNatClampNeg; have h9 := x_lt hk (by assumption); omega) (XC_to C (by rw [fX2_carries_l, if_neg qc_1, if_neg qc_4] <;> rfl) rfl))
set_option maxRecDepth 20000 in
theorem tX2_carries {G : XG} (hok : XK G) {i : Nat} {i1 : Nat} {Ω : XO} (hd0 : dm G 2 i) (hd1 : dm G 9 i1)  : XM G yX2_carries cX2_carries 8 ((some FieldType.boolean)) (RM 3 0) [.ref (ad G 2 i), .ref (ad G 9 i1)] Ω (.inl (some (.int (fX2_carries Ω i i1)))) Ω := by
  refine x_start (lv := [(0, .ref (ad G 2 i)), (1, .ref (ad G 9 i1))]) (own := RX2) hok (by decide +kernel) rfl (Nat.le_of_ble_eq_true rfl) rfl (fun B C => ?_)
  refine x_iconst (pc2 := 1) (v := 0) C dX2_carries_0 rfl rfl ?_
  refine x_istore_n (pc2 := 2) (lv2 := [(2, _), (0, _), (1, _)]) C dX2_carries_1 rfl (by decide) rfl rfl ?_
  refine x_iconst (pc2 := 3) (v := 0) C dX2_carries_2 rfl rfl ?_
  refine x_istore_n (pc2 := 4) (lv2 := [(3, _), (2, _), (0, _), (1, _)]) C dX2_carries_3 rfl (by decide) rfl rfl ?_
  refine x_aload_n (pc2 := 5) C dX2_carries_4 2 rfl rfl rfl ?_
  refine x_getR (f := 200) (k2 := 2004) (pc2 := 8) C (by assumption) kf_2_11 dX2_carries_5 rfl rfl rfl (rti_i rfl) rfl (fun qd_1 => ?_)
  refine x_astore (pc2 := 10) (lv2 := [(4, _), (3, _), (2, _), (0, _), (1, _)]) C dX2_carries_8 (by decide) rfl rfl ?_
  refine x_aload (pc2 := 12) C dX2_carries_10 0 rfl rfl ?_
  refine x_alen (pc2 := 13) C (by assumption) dX2_carries_12 rfl rfl rfl ?_
  refine x_istore (pc2 := 15) (lv2 := [(5, _), (4, _), (3, _), (2, _), (0, _), (1, _)]) C dX2_carries_13 (by decide) rfl rfl ?_
  refine x_iconst (pc2 := 16) (v := 0) C dX2_carries_15 rfl rfl ?_
  refine x_istore (pc2 := 18) (lv2 := [(6, _), (5, _), (4, _), (3, _), (2, _), (0, _), (1, _)]) C dX2_carries_16 (by decide) rfl rfl ?_
  exact x_sub (lv2 := [(6, _), (5, _), (4, _), (3, _), (2, _), (0, _), (1, _)]) C [0, 1, 2, 3, 4, 5, 6] rfl (lX2_carries hok (by assumption) (by assumption) (by assumption) ((nI (alen 2004)).toNatClampNeg + 1) 0 _ _ (by omega) (by omega) (XC_to C (by rw [fX2_carries] <;> rfl) rfl))

def fX2_moveFinal_l  (i : Nat) (i1 : Nat) : Nat → Nat → Nat → Nat → XO → XO
  | 0, _, _, _, Ω => Ω
  | n + 1, k, y3, y2, Ω => (if (nI (alen 2002)) ≤ (nI k) then uI Ω 201 i 0 (xI Ω 0 y3 0) else (if (fX0_comesFrom Ω (24 * i1 + (nI k).toNatClampNeg) y2) = 0 then fX2_moveFinal_l i i1 n (k + 1) y3 y2 Ω else (if (xI Ω 2 (24 * i1 + (nI k).toNatClampNeg) 0) ≤ (xI Ω 2 y3 0) then fX2_moveFinal_l i i1 n (k + 1) y3 y2 Ω else (if (fX2_justifiesNext Ω i1 (24 * i1 + (nI k).toNatClampNeg)) = 0 then fX2_moveFinal_l i i1 n (k + 1) y3 y2 Ω else fX2_moveFinal_l i i1 n (k + 1) (24 * i1 + (nI k).toNatClampNeg) y2 Ω))))
def fX2_moveFinal (Ω : XO) (i : Nat) (i1 : Nat) : XO := (if (xI Ω 201 i 0) < 0 then Ω else (if (xI Ω 201 i 0) < (nI (alen 2002)) then fX2_moveFinal_l i i1 ((nI (alen 2002)).toNatClampNeg + 1) 0 (24 * i1 + (xI Ω 201 i 0).toNatClampNeg) (24 * i1 + (xI Ω 201 i 0).toNatClampNeg) Ω else Ω))
set_option maxRecDepth 20000 in
theorem lX2_moveFinal {G : XG} (hok : XK G) {B : XB} {i : Nat} {i1 : Nat} (hd0 : dm G 2 i) (hd1 : dm G 2002 i1)   : ∀ (n k : Nat) (y3 : Nat) (y2 : Nat) (Ω : XO), dm G 0 y3 → dm G 0 y2 → (nI (alen 2002)).toNatClampNeg + 1 ≤ k + n → k ≤ (nI (alen 2002)).toNatClampNeg → XC G B cX2_moveFinal RX2 (RM 1 0) 8 none (.inl none) (fX2_moveFinal_l i i1 n k y3 y2 Ω) → XW G B 8 37 [(6, .int (nI k)), (5, .int (nI (alen 2002))), (4, .ref (ad G 2002 (i1))), (3, .ref (ad G 0 (y3))), (2, .ref (ad G 0 (y2))), (0, .ref (ad G 2 (i))), (1, .ref (ad G 2002 (i1)))] [] Ω 0 0 := by
  intro n
  induction n with
  | zero => intro k y3 y2 Ω hv3 hv2 h1 h2; exact absurd h1 (by omega)
  | succ n ih =>
    intro k y3 y2 Ω hv3 hv2 h1 hk C
    refine x_iload (pc2 := 39) C dX2_moveFinal_37 0 rfl rfl ?_
    refine x_iload (pc2 := 41) C dX2_moveFinal_39 1 rfl rfl ?_
    refine x_icmp_ge (tgt := 90) (pc2 := 44) C dX2_moveFinal_41 (by decide) rfl (fun qc_1 => ?_) (fun qc_1 => ?_)
    · refine x_aload_n (pc2 := 91) C dX2_moveFinal_90 5 rfl rfl rfl ?_
      refine x_aload_n (pc2 := 92) C dX2_moveFinal_91 3 rfl rfl rfl ?_
      refine x_getI (pc2 := 95) (f := 0) C (by assumption) kf_2_80 dX2_moveFinal_92 rfl rfl rfl ?_
      refine x_putI (pc2 := 98) (f := 201) C (by assumption) kf_2_66 dX2_moveFinal_95 rfl rfl rfl rfl rfl ?_
      exact x_vreturn C dX2_moveFinal_98 rfl (Nat.le_of_ble_eq_true rfl) (Nat.le_of_ble_eq_true rfl) rfl (by rw [fX2_moveFinal_l, if_pos qc_1] <;> rfl)
    · refine x_aload (pc2 := 46) C dX2_moveFinal_44 2 rfl rfl ?_
      refine x_iload (pc2 := 48) C dX2_moveFinal_46 0 rfl rfl ?_
      refine x_aald (k2 := 0) (pc2 := 49) C (by assumption) dX2_moveFinal_48 rfl rfl (by first | exact x_inK (by assumption) (by assumption) | exact x_in (by assumption) (by assumption) (by decide)) rfl (eli_2002 _ _) rfl (fun qd_2 => ?_)
      refine x_astore (pc2 := 51) (lv2 := [(7, _), (6, _), (5, _), (4, _), (3, _), (2, _), (0, _), (1, _)]) C dX2_moveFinal_49 (by decide) rfl rfl ?_
      refine x_aload (pc2 := 53) C dX2_moveFinal_51 0 rfl rfl ?_
      refine x_aload_n (pc2 := 54) C dX2_moveFinal_53 5 rfl rfl rfl ?_
      refine x_ret (rest := []) (st2 := [_]) (pc2 := 57) (cu2 := 0) (su2 := 0) (x_cV C (by assumption) (Nat.le_of_ble_eq_true rfl) kmX0_comesFrom rfl kk_2_69 (tX0_comesFrom hok (by assumption) (by assumption)) rfl rfl (Nat.le_of_ble_eq_true rfl) ⟨Nat.le_of_ble_eq_true rfl, Nat.le_of_ble_eq_true rfl⟩ ⟨Nat.le_of_ble_eq_true rfl, Nat.le_of_ble_eq_true rfl⟩ dX2_moveFinal_54) rfl rfl rfl rfl ?_
      refine x_if_eq (tgt := 84) (pc2 := 60) C dX2_moveFinal_57 (by decide) rfl (fun qc_3 => ?_) (fun qc_3 => ?_)
      · refine x_iinc (pc2 := 87) (v := nI (k + 1)) (lv2 := [(6, _), (7, _), (5, _), (4, _), (3, _), (2, _), (0, _), (1, _)]) C dX2_moveFinal_84 1 rfl (nI_1 _) (by decide) rfl rfl ?_
        refine x_goto (tgt := 37) C dX2_moveFinal_87 (by decide) ?_
        exact x_sub (lv2 := [(6, _), (5, _), (4, _), (3, _), (2, _), (0, _), (1, _)]) C [0, 2, 3, 4, 5, 6, 7] rfl (ih (k + 1) _ _ _ (by assumption) (by assumption) (by show (nI (alen 2002)).toNatClampNeg + 1 ≤ k + 1 + n; have h9 := x_lt hk (by assumption); omega) (by show k + 1 ≤ (nI (alen 2002)).toNatClampNeg; have h9 := x_lt hk (by assumption); omega) (XC_to C rfl (by rw [fX2_moveFinal_l, if_neg qc_1, if_pos qc_3] <;> rfl)))
      · refine x_aload (pc2 := 62) C dX2_moveFinal_60 0 rfl rfl ?_
        refine x_getI (pc2 := 65) (f := 2) C (by assumption) kf_2_73 dX2_moveFinal_62 rfl rfl rfl ?_
        refine x_aload_n (pc2 := 66) C dX2_moveFinal_65 4 rfl rfl rfl ?_
        refine x_getI (pc2 := 69) (f := 2) C (by assumption) kf_2_73 dX2_moveFinal_66 rfl rfl rfl ?_
        refine x_icmp_le (tgt := 84) (pc2 := 72) C dX2_moveFinal_69 (by decide) rfl (fun qc_4 => ?_) (fun qc_4 => ?_)
        · refine x_iinc (pc2 := 87) (v := nI (k + 1)) (lv2 := [(6, _), (7, _), (5, _), (4, _), (3, _), (2, _), (0, _), (1, _)]) C dX2_moveFinal_84 1 rfl (nI_1 _) (by decide) rfl rfl ?_
          refine x_goto (tgt := 37) C dX2_moveFinal_87 (by decide) ?_
          exact x_sub (lv2 := [(6, _), (5, _), (4, _), (3, _), (2, _), (0, _), (1, _)]) C [0, 2, 3, 4, 5, 6, 7] rfl (ih (k + 1) _ _ _ (by assumption) (by assumption) (by show (nI (alen 2002)).toNatClampNeg + 1 ≤ k + 1 + n; have h9 := x_lt hk (by assumption); omega) (by show k + 1 ≤ (nI (alen 2002)).toNatClampNeg; have h9 := x_lt hk (by assumption); omega) (XC_to C rfl (by rw [fX2_moveFinal_l, if_neg qc_1, if_neg qc_3, if_pos qc_4] <;> rfl)))
        · refine x_aload_n (pc2 := 73) C dX2_moveFinal_72 7 rfl rfl rfl ?_
          refine x_aload (pc2 := 75) C dX2_moveFinal_73 0 rfl rfl ?_
          refine x_ret (rest := []) (st2 := [_]) (pc2 := 78) (cu2 := 0) (su2 := 0) (x_cS C kmX2_justifiesNext kk_2_76 (tX2_justifiesNext hok (by assumption) (by assumption)) rfl rfl (Nat.le_of_ble_eq_true rfl) ⟨Nat.le_of_ble_eq_true rfl, Nat.le_of_ble_eq_true rfl⟩ ⟨Nat.le_of_ble_eq_true rfl, Nat.le_of_ble_eq_true rfl⟩ dX2_moveFinal_75) rfl rfl rfl rfl ?_
          refine x_if_eq (tgt := 84) (pc2 := 81) C dX2_moveFinal_78 (by decide) rfl (fun qc_5 => ?_) (fun qc_5 => ?_)
          · refine x_iinc (pc2 := 87) (v := nI (k + 1)) (lv2 := [(6, _), (7, _), (5, _), (4, _), (3, _), (2, _), (0, _), (1, _)]) C dX2_moveFinal_84 1 rfl (nI_1 _) (by decide) rfl rfl ?_
            refine x_goto (tgt := 37) C dX2_moveFinal_87 (by decide) ?_
            exact x_sub (lv2 := [(6, _), (5, _), (4, _), (3, _), (2, _), (0, _), (1, _)]) C [0, 2, 3, 4, 5, 6, 7] rfl (ih (k + 1) _ _ _ (by assumption) (by assumption) (by show (nI (alen 2002)).toNatClampNeg + 1 ≤ k + 1 + n; have h9 := x_lt hk (by assumption); omega) (by show k + 1 ≤ (nI (alen 2002)).toNatClampNeg; have h9 := x_lt hk (by assumption); omega) (XC_to C rfl (by rw [fX2_moveFinal_l, if_neg qc_1, if_neg qc_3, if_neg qc_4, if_pos qc_5] <;> rfl)))
          · refine x_aload (pc2 := 83) C dX2_moveFinal_81 0 rfl rfl ?_
            refine x_astore_n (pc2 := 84) (lv2 := [(3, _), (7, _), (6, _), (5, _), (4, _), (2, _), (0, _), (1, _)]) C dX2_moveFinal_83 rfl (by decide) rfl rfl ?_
            refine x_iinc (pc2 := 87) (v := nI (k + 1)) (lv2 := [(6, _), (3, _), (7, _), (5, _), (4, _), (2, _), (0, _), (1, _)]) C dX2_moveFinal_84 2 rfl (nI_1 _) (by decide) rfl rfl ?_
            refine x_goto (tgt := 37) C dX2_moveFinal_87 (by decide) ?_
            exact x_sub (lv2 := [(6, _), (5, _), (4, _), (3, _), (2, _), (0, _), (1, _)]) C [0, 3, 4, 1, 5, 6, 7] rfl (ih (k + 1) _ _ _ (by assumption) (by assumption) (by show (nI (alen 2002)).toNatClampNeg + 1 ≤ k + 1 + n; have h9 := x_lt hk (by assumption); omega) (by show k + 1 ≤ (nI (alen 2002)).toNatClampNeg; have h9 := x_lt hk (by assumption); omega) (XC_to C rfl (by rw [fX2_moveFinal_l, if_neg qc_1, if_neg qc_3, if_neg qc_4, if_neg qc_5] <;> rfl)))
set_option maxRecDepth 20000 in
theorem tX2_moveFinal {G : XG} (hok : XK G) {i : Nat} {i1 : Nat} {Ω : XO} (hd0 : dm G 2 i) (hd1 : dm G 2002 i1)  : XM G yX2_moveFinal cX2_moveFinal 8 none (RM 1 0) [.ref (ad G 2 i), .ref (ad G 2002 i1)] Ω (.inl none) (fX2_moveFinal Ω i i1) := by
  refine x_start (lv := [(0, .ref (ad G 2 i)), (1, .ref (ad G 2002 i1))]) (own := RX2) hok (by decide +kernel) rfl (Nat.le_of_ble_eq_true rfl) rfl (fun B C => ?_)
  refine x_aload_n (pc2 := 1) C dX2_moveFinal_0 0 rfl rfl rfl ?_
  refine x_getI (pc2 := 4) (f := 201) C (by assumption) kf_2_66 dX2_moveFinal_1 rfl rfl rfl ?_
  refine x_if_lt (tgt := 16) (pc2 := 7) C dX2_moveFinal_4 (by decide) rfl (fun qc_1 => ?_) (fun qc_1 => ?_)
  · exact x_vreturn C dX2_moveFinal_16 rfl (Nat.le_of_ble_eq_true rfl) (Nat.le_of_ble_eq_true rfl) rfl (by rw [fX2_moveFinal, if_pos qc_1] <;> rfl)
  · refine x_aload_n (pc2 := 8) C dX2_moveFinal_7 0 rfl rfl rfl ?_
    refine x_getI (pc2 := 11) (f := 201) C (by assumption) kf_2_66 dX2_moveFinal_8 rfl rfl rfl ?_
    refine x_aload_n (pc2 := 12) C dX2_moveFinal_11 1 rfl rfl rfl ?_
    refine x_alen (pc2 := 13) C (by assumption) dX2_moveFinal_12 rfl rfl rfl ?_
    refine x_icmp_lt (tgt := 17) (pc2 := 16) C dX2_moveFinal_13 (by decide) rfl (fun qc_2 => ?_) (fun qc_2 => ?_)
    · refine x_aload_n (pc2 := 18) C dX2_moveFinal_17 1 rfl rfl rfl ?_
      refine x_aload_n (pc2 := 19) C dX2_moveFinal_18 0 rfl rfl rfl ?_
      refine x_getI (pc2 := 22) (f := 201) C (by assumption) kf_2_66 dX2_moveFinal_19 rfl rfl rfl ?_
      refine x_aald (k2 := 0) (pc2 := 23) C (by assumption) dX2_moveFinal_22 rfl rfl (by first | exact x_in (by assumption) (by assumption) (by decide) | exact x_in3 (by assumption) (by assumption) (by decide) | exact x_in2 (by assumption) (by assumption) (by decide)) rfl (eli_2002 _ _) rfl (fun qd_3 => ?_)
      refine x_astore_n (pc2 := 24) (lv2 := [(2, _), (0, _), (1, _)]) C dX2_moveFinal_23 rfl (by decide) rfl rfl ?_
      refine x_aload_n (pc2 := 25) C dX2_moveFinal_24 0 rfl rfl rfl ?_
      refine x_astore_n (pc2 := 26) (lv2 := [(3, _), (2, _), (0, _), (1, _)]) C dX2_moveFinal_25 rfl (by decide) rfl rfl ?_
      refine x_aload_n (pc2 := 27) C dX2_moveFinal_26 3 rfl rfl rfl ?_
      refine x_astore (pc2 := 29) (lv2 := [(4, _), (3, _), (2, _), (0, _), (1, _)]) C dX2_moveFinal_27 (by decide) rfl rfl ?_
      refine x_aload (pc2 := 31) C dX2_moveFinal_29 0 rfl rfl ?_
      refine x_alen (pc2 := 32) C (by assumption) dX2_moveFinal_31 rfl rfl rfl ?_
      refine x_istore (pc2 := 34) (lv2 := [(5, _), (4, _), (3, _), (2, _), (0, _), (1, _)]) C dX2_moveFinal_32 (by decide) rfl rfl ?_
      refine x_iconst (pc2 := 35) (v := 0) C dX2_moveFinal_34 rfl rfl ?_
      refine x_istore (pc2 := 37) (lv2 := [(6, _), (5, _), (4, _), (3, _), (2, _), (0, _), (1, _)]) C dX2_moveFinal_35 (by decide) rfl rfl ?_
      exact x_sub (lv2 := [(6, _), (5, _), (4, _), (3, _), (2, _), (0, _), (1, _)]) C [0, 1, 2, 3, 4, 5, 6] rfl (lX2_moveFinal hok (by assumption) (by assumption) ((nI (alen 2002)).toNatClampNeg + 1) 0 _ _ _ (by assumption) (by assumption) (by omega) (by omega) (XC_to C rfl (by rw [fX2_moveFinal, if_neg qc_1, if_pos qc_2] <;> rfl)))
    · exact x_vreturn C dX2_moveFinal_16 rfl (Nat.le_of_ble_eq_true rfl) (Nat.le_of_ble_eq_true rfl) rfl (by rw [fX2_moveFinal, if_neg qc_1, if_neg qc_2] <;> rfl)
theorem R_fX2_moveFinal_l (i : Nat) (i1 : Nat) : ∀ (n k : Nat) (y3 : Nat) (y2 : Nat) (Ω : XO), xR (fX2_moveFinal_l i i1 n k y3 y2 Ω) = xR Ω := by
  intro n
  induction n with
  | zero => intros; rfl
  | succ n ih =>
    intros
    rw [fX2_moveFinal_l]
    (repeat' split) <;> first | rfl | (rw [ih]; done) | (rw [ih]; rfl) | (rw [ih]; funext a b9; simp only [R_uI, R_uL, R_cI, R_sPut, R_fX0_imitate, R_fX0_enter, R_fX0_addEvent, R_fX3_take, R_fX3_push, R_fX3_reach, R_fX5_append, R_fX6_copyFrom, R_fX6_gain, R_fX6_move, R_fX6_raiseNonce, R_fX7_order, R_fX7_bid, R_fX7_nameLock, R_fX9_become, R_fX0_follow, R_fX3_save, R_fX1_dropRivals_l, R_fX1_dropRivals, R_fX1_throwOutFor_l, R_fX1_throwOutFor, R_fX1_dropLower_l, R_fX1_dropLower, R_fX3_open_l, R_fX3_open, R_fX6_dropProgram_l, R_fX6_dropProgram, R_fX8_give_l, R_fX8_give, R_fX1_admit_l, R_fX1_admit]) | (funext a b9; simp only [R_uI, R_uL, R_cI, R_sPut, R_fX0_imitate, R_fX0_enter, R_fX0_addEvent, R_fX3_take, R_fX3_push, R_fX3_reach, R_fX5_append, R_fX6_copyFrom, R_fX6_gain, R_fX6_move, R_fX6_raiseNonce, R_fX7_order, R_fX7_bid, R_fX7_nameLock, R_fX9_become, R_fX0_follow, R_fX3_save, R_fX1_dropRivals_l, R_fX1_dropRivals, R_fX1_throwOutFor_l, R_fX1_throwOutFor, R_fX1_dropLower_l, R_fX1_dropLower, R_fX3_open_l, R_fX3_open, R_fX6_dropProgram_l, R_fX6_dropProgram, R_fX8_give_l, R_fX8_give, R_fX1_admit_l, R_fX1_admit])
theorem R_fX2_moveFinal (Ω : XO) (i : Nat) (i1 : Nat) : xR (fX2_moveFinal Ω i i1) = xR Ω := by
  unfold fX2_moveFinal
  (repeat' split) <;> first | rfl | (funext a b9; simp only [R_uI, R_uL, R_cI, R_sPut, R_fX0_imitate, R_fX0_enter, R_fX0_addEvent, R_fX3_take, R_fX3_push, R_fX3_reach, R_fX5_append, R_fX6_copyFrom, R_fX6_gain, R_fX6_move, R_fX6_raiseNonce, R_fX7_order, R_fX7_bid, R_fX7_nameLock, R_fX9_become, R_fX0_follow, R_fX3_save, R_fX1_dropRivals_l, R_fX1_dropRivals, R_fX1_throwOutFor_l, R_fX1_throwOutFor, R_fX1_dropLower_l, R_fX1_dropLower, R_fX3_open_l, R_fX3_open, R_fX6_dropProgram_l, R_fX6_dropProgram, R_fX8_give_l, R_fX8_give, R_fX1_admit_l, R_fX1_admit, R_fX2_moveFinal_l])

def fX6_becomeFirst_l  (i : Nat) : Nat → Nat → XO → XO
  | 0, _, Ω => Ω
  | n + 1, k, Ω => (if (16 : Int32) ≤ (nI k) then uL (uI Ω 604 i 0 (0 : Int32)) 605 i 0 (0 : Int64) else (if (6 : Int32) ≤ (nI k) then (if (nI k) = (15 : Int32) then fX6_becomeFirst_l i n (k + 1) (fX6_dropProgram (sPut (sPut Ω 2011 i (nI k) (20000 : Int32)) 2012 i (nI k) (0 : Int32)) i (nI k)) else fX6_becomeFirst_l i n (k + 1) (fX6_dropProgram (sPut (sPut Ω 2011 i (nI k) (0 : Int32)) 2012 i (nI k) (0 : Int32)) i (nI k))) else fX6_becomeFirst_l i n (k + 1) (fX6_dropProgram (sPut (sPut Ω 2011 i (nI k) (10000 : Int32)) 2012 i (nI k) (0 : Int32)) i (nI k))))
def fX6_becomeFirst (Ω : XO) (i : Nat) : XO := fX6_becomeFirst_l i ((16 : Int32).toNatClampNeg + 1) 0 Ω
set_option maxRecDepth 20000 in
theorem lX6_becomeFirst {G : XG} (hok : XK G) {B : XB} {i : Nat} (hd0 : dm G 6 i)   : ∀ (n k : Nat) (Ω : XO), (16 : Int32).toNatClampNeg + 1 ≤ k + n → k ≤ (16 : Int32).toNatClampNeg → XC G B cX6_becomeFirst RX6 (RM 2 0) 2 none (.inl none) (fX6_becomeFirst_l i n k Ω) → XW G B 2 2 [(1, .int (nI k)), (0, .ref (ad G 6 (i)))] [] Ω 0 0 := by
  intro n
  induction n with
  | zero => intro k Ω h1 h2; exact absurd h1 (by omega)
  | succ n ih =>
    intro k Ω h1 hk C
    refine x_iload_n (pc2 := 3) C dX6_becomeFirst_2 0 rfl rfl rfl ?_
    refine x_bipush (pc2 := 5) (v := 16) C dX6_becomeFirst_3 rfl rfl ?_
    refine x_icmp_ge (tgt := 61) (pc2 := 8) C dX6_becomeFirst_5 (by decide) rfl (fun qc_1 => ?_) (fun qc_1 => ?_)
    · refine x_aload_n (pc2 := 62) C dX6_becomeFirst_61 1 rfl rfl rfl ?_
      refine x_iconst (pc2 := 63) (v := 0) C dX6_becomeFirst_62 rfl rfl ?_
      refine x_putI (pc2 := 66) (f := 604) C (by assumption) kf_6_32 dX6_becomeFirst_63 rfl rfl rfl rfl rfl ?_
      refine x_aload_n (pc2 := 67) C dX6_becomeFirst_66 1 rfl rfl rfl ?_
      refine x_lconst (pc2 := 68) (v := 0) C dX6_becomeFirst_67 rfl rfl ?_
      refine x_putL (pc2 := 71) (f := 605) C (by assumption) kf_6_36 dX6_becomeFirst_68 rfl rfl rfl rfl rfl ?_
      exact x_vreturn C dX6_becomeFirst_71 rfl (Nat.le_of_ble_eq_true rfl) (Nat.le_of_ble_eq_true rfl) rfl (by rw [fX6_becomeFirst_l, if_pos qc_1] <;> rfl)
    · refine x_aload_n (pc2 := 9) C dX6_becomeFirst_8 1 rfl rfl rfl ?_
      refine x_getR (f := 600) (k2 := 2011) (pc2 := 12) C (by assumption) kf_6_9 dX6_becomeFirst_9 rfl rfl rfl (rti_i rfl) rfl (fun qd_2 => ?_)
      refine x_iload_n (pc2 := 13) C dX6_becomeFirst_12 0 rfl rfl rfl ?_
      refine x_iload_n (pc2 := 14) C dX6_becomeFirst_13 0 rfl rfl rfl ?_
      refine x_bipush (pc2 := 16) (v := 6) C dX6_becomeFirst_14 rfl rfl ?_
      refine x_icmp_ge (tgt := 25) (pc2 := 19) C dX6_becomeFirst_16 (by decide) rfl (fun qc_3 => ?_) (fun qc_3 => ?_)
      · refine x_iload_n (pc2 := 26) C dX6_becomeFirst_25 0 rfl rfl rfl ?_
        refine x_bipush (pc2 := 28) (v := 15) C dX6_becomeFirst_26 rfl rfl ?_
        refine x_icmp_ne (tgt := 37) (pc2 := 31) C dX6_becomeFirst_28 (by decide) rfl (fun qc_4 => ?_) (fun qc_4 => ?_)
        · refine x_iconst (pc2 := 38) (v := 0) C dX6_becomeFirst_37 rfl rfl ?_
          refine x_ret (rest := []) (st2 := []) (pc2 := 41) (cu2 := 0) (su2 := 0) (x_cSN C kmX10_put ke_6_24 (tX10_put hok (by assumption) rfl (by decide)) rfl rfl (Nat.le_of_ble_eq_true rfl) ⟨Nat.le_of_ble_eq_true rfl, Nat.le_of_ble_eq_true rfl⟩ ⟨Nat.le_of_ble_eq_true rfl, Nat.le_of_ble_eq_true rfl⟩ dX6_becomeFirst_38) rfl rfl rfl rfl ?_
          refine x_aload_n (pc2 := 42) C dX6_becomeFirst_41 1 rfl rfl rfl ?_
          refine x_getR (f := 601) (k2 := 2012) (pc2 := 45) C (by assumption) kf_6_15 dX6_becomeFirst_42 rfl rfl rfl (rti_i rfl) rfl (fun qd_5 => ?_)
          refine x_iload_n (pc2 := 46) C dX6_becomeFirst_45 0 rfl rfl rfl ?_
          refine x_iconst (pc2 := 47) (v := 0) C dX6_becomeFirst_46 rfl rfl ?_
          refine x_ret (rest := []) (st2 := []) (pc2 := 50) (cu2 := 0) (su2 := 0) (x_cSN C kmX10_put ke_6_24 (tX10_put hok (by assumption) rfl (by decide)) rfl rfl (Nat.le_of_ble_eq_true rfl) ⟨Nat.le_of_ble_eq_true rfl, Nat.le_of_ble_eq_true rfl⟩ ⟨Nat.le_of_ble_eq_true rfl, Nat.le_of_ble_eq_true rfl⟩ dX6_becomeFirst_47) rfl rfl rfl rfl ?_
          refine x_aload_n (pc2 := 51) C dX6_becomeFirst_50 1 rfl rfl rfl ?_
          refine x_iload_n (pc2 := 52) C dX6_becomeFirst_51 0 rfl rfl rfl ?_
          refine x_ret (rest := []) (st2 := []) (pc2 := 55) (cu2 := 0) (su2 := 0) (x_cV C (by assumption) (Nat.le_of_ble_eq_true rfl) kmX6_dropProgram rfl kk_6_28 (tX6_dropProgram hok (by assumption)) rfl rfl (Nat.le_of_ble_eq_true rfl) ⟨Nat.le_of_ble_eq_true rfl, Nat.le_of_ble_eq_true rfl⟩ ⟨Nat.le_of_ble_eq_true rfl, Nat.le_of_ble_eq_true rfl⟩ dX6_becomeFirst_52) rfl rfl rfl rfl ?_
          refine x_iinc (pc2 := 58) (v := nI (k + 1)) (lv2 := [(1, _), (0, _)]) C dX6_becomeFirst_55 0 rfl (nI_1 _) (by decide) rfl rfl ?_
          refine x_goto (tgt := 2) C dX6_becomeFirst_58 (by decide) ?_
          exact x_sub (lv2 := [(1, _), (0, _)]) C [0, 1] rfl (ih (k + 1) _ (by show (16 : Int32).toNatClampNeg + 1 ≤ k + 1 + n; have h9 := x_lt hk (by assumption); omega) (by show k + 1 ≤ (16 : Int32).toNatClampNeg; have h9 := x_lt hk (by assumption); omega) (XC_to C rfl (by rw [fX6_becomeFirst_l, if_neg qc_1, if_pos qc_3, if_neg qc_4] <;> rfl)))
        · refine x_sipush (pc2 := 34) (v := 20000) C dX6_becomeFirst_31 rfl rfl ?_
          refine x_goto (tgt := 38) C dX6_becomeFirst_34 (by decide) ?_
          refine x_ret (rest := []) (st2 := []) (pc2 := 41) (cu2 := 0) (su2 := 0) (x_cSN C kmX10_put ke_6_24 (tX10_put hok (by assumption) rfl (by decide)) rfl rfl (Nat.le_of_ble_eq_true rfl) ⟨Nat.le_of_ble_eq_true rfl, Nat.le_of_ble_eq_true rfl⟩ ⟨Nat.le_of_ble_eq_true rfl, Nat.le_of_ble_eq_true rfl⟩ dX6_becomeFirst_38) rfl rfl rfl rfl ?_
          refine x_aload_n (pc2 := 42) C dX6_becomeFirst_41 1 rfl rfl rfl ?_
          refine x_getR (f := 601) (k2 := 2012) (pc2 := 45) C (by assumption) kf_6_15 dX6_becomeFirst_42 rfl rfl rfl (rti_i rfl) rfl (fun qd_6 => ?_)
          refine x_iload_n (pc2 := 46) C dX6_becomeFirst_45 0 rfl rfl rfl ?_
          refine x_iconst (pc2 := 47) (v := 0) C dX6_becomeFirst_46 rfl rfl ?_
          refine x_ret (rest := []) (st2 := []) (pc2 := 50) (cu2 := 0) (su2 := 0) (x_cSN C kmX10_put ke_6_24 (tX10_put hok (by assumption) rfl (by decide)) rfl rfl (Nat.le_of_ble_eq_true rfl) ⟨Nat.le_of_ble_eq_true rfl, Nat.le_of_ble_eq_true rfl⟩ ⟨Nat.le_of_ble_eq_true rfl, Nat.le_of_ble_eq_true rfl⟩ dX6_becomeFirst_47) rfl rfl rfl rfl ?_
          refine x_aload_n (pc2 := 51) C dX6_becomeFirst_50 1 rfl rfl rfl ?_
          refine x_iload_n (pc2 := 52) C dX6_becomeFirst_51 0 rfl rfl rfl ?_
          refine x_ret (rest := []) (st2 := []) (pc2 := 55) (cu2 := 0) (su2 := 0) (x_cV C (by assumption) (Nat.le_of_ble_eq_true rfl) kmX6_dropProgram rfl kk_6_28 (tX6_dropProgram hok (by assumption)) rfl rfl (Nat.le_of_ble_eq_true rfl) ⟨Nat.le_of_ble_eq_true rfl, Nat.le_of_ble_eq_true rfl⟩ ⟨Nat.le_of_ble_eq_true rfl, Nat.le_of_ble_eq_true rfl⟩ dX6_becomeFirst_52) rfl rfl rfl rfl ?_
          refine x_iinc (pc2 := 58) (v := nI (k + 1)) (lv2 := [(1, _), (0, _)]) C dX6_becomeFirst_55 0 rfl (nI_1 _) (by decide) rfl rfl ?_
          refine x_goto (tgt := 2) C dX6_becomeFirst_58 (by decide) ?_
          exact x_sub (lv2 := [(1, _), (0, _)]) C [0, 1] rfl (ih (k + 1) _ (by show (16 : Int32).toNatClampNeg + 1 ≤ k + 1 + n; have h9 := x_lt hk (by assumption); omega) (by show k + 1 ≤ (16 : Int32).toNatClampNeg; have h9 := x_lt hk (by assumption); omega) (XC_to C rfl (by rw [fX6_becomeFirst_l, if_neg qc_1, if_pos qc_3, if_pos qc_4] <;> rfl)))
      · refine x_sipush (pc2 := 22) (v := 10000) C dX6_becomeFirst_19 rfl rfl ?_
        refine x_goto (tgt := 38) C dX6_becomeFirst_22 (by decide) ?_
        refine x_ret (rest := []) (st2 := []) (pc2 := 41) (cu2 := 0) (su2 := 0) (x_cSN C kmX10_put ke_6_24 (tX10_put hok (by assumption) rfl (by decide)) rfl rfl (Nat.le_of_ble_eq_true rfl) ⟨Nat.le_of_ble_eq_true rfl, Nat.le_of_ble_eq_true rfl⟩ ⟨Nat.le_of_ble_eq_true rfl, Nat.le_of_ble_eq_true rfl⟩ dX6_becomeFirst_38) rfl rfl rfl rfl ?_
        refine x_aload_n (pc2 := 42) C dX6_becomeFirst_41 1 rfl rfl rfl ?_
        refine x_getR (f := 601) (k2 := 2012) (pc2 := 45) C (by assumption) kf_6_15 dX6_becomeFirst_42 rfl rfl rfl (rti_i rfl) rfl (fun qd_7 => ?_)
        refine x_iload_n (pc2 := 46) C dX6_becomeFirst_45 0 rfl rfl rfl ?_
        refine x_iconst (pc2 := 47) (v := 0) C dX6_becomeFirst_46 rfl rfl ?_
        refine x_ret (rest := []) (st2 := []) (pc2 := 50) (cu2 := 0) (su2 := 0) (x_cSN C kmX10_put ke_6_24 (tX10_put hok (by assumption) rfl (by decide)) rfl rfl (Nat.le_of_ble_eq_true rfl) ⟨Nat.le_of_ble_eq_true rfl, Nat.le_of_ble_eq_true rfl⟩ ⟨Nat.le_of_ble_eq_true rfl, Nat.le_of_ble_eq_true rfl⟩ dX6_becomeFirst_47) rfl rfl rfl rfl ?_
        refine x_aload_n (pc2 := 51) C dX6_becomeFirst_50 1 rfl rfl rfl ?_
        refine x_iload_n (pc2 := 52) C dX6_becomeFirst_51 0 rfl rfl rfl ?_
        refine x_ret (rest := []) (st2 := []) (pc2 := 55) (cu2 := 0) (su2 := 0) (x_cV C (by assumption) (Nat.le_of_ble_eq_true rfl) kmX6_dropProgram rfl kk_6_28 (tX6_dropProgram hok (by assumption)) rfl rfl (Nat.le_of_ble_eq_true rfl) ⟨Nat.le_of_ble_eq_true rfl, Nat.le_of_ble_eq_true rfl⟩ ⟨Nat.le_of_ble_eq_true rfl, Nat.le_of_ble_eq_true rfl⟩ dX6_becomeFirst_52) rfl rfl rfl rfl ?_
        refine x_iinc (pc2 := 58) (v := nI (k + 1)) (lv2 := [(1, _), (0, _)]) C dX6_becomeFirst_55 0 rfl (nI_1 _) (by decide) rfl rfl ?_
        refine x_goto (tgt := 2) C dX6_becomeFirst_58 (by decide) ?_
        exact x_sub (lv2 := [(1, _), (0, _)]) C [0, 1] rfl (ih (k + 1) _ (by show (16 : Int32).toNatClampNeg + 1 ≤ k + 1 + n; have h9 := x_lt hk (by assumption); omega) (by show k + 1 ≤ (16 : Int32).toNatClampNeg; have h9 := x_lt hk (by assumption); omega) (XC_to C rfl (by rw [fX6_becomeFirst_l, if_neg qc_1, if_neg qc_3] <;> rfl)))
set_option maxRecDepth 20000 in
theorem tX6_becomeFirst {G : XG} (hok : XK G) {i : Nat} {Ω : XO} (hd0 : dm G 6 i)  : XM G yX6_becomeFirst cX6_becomeFirst 2 none (RM 2 0) [.ref (ad G 6 i)] Ω (.inl none) (fX6_becomeFirst Ω i) := by
  refine x_start (lv := [(0, .ref (ad G 6 i))]) (own := RX6) hok (by decide +kernel) rfl (Nat.le_of_ble_eq_true rfl) rfl (fun B C => ?_)
  refine x_iconst (pc2 := 1) (v := 0) C dX6_becomeFirst_0 rfl rfl ?_
  refine x_istore_n (pc2 := 2) (lv2 := [(1, _), (0, _)]) C dX6_becomeFirst_1 rfl (by decide) rfl rfl ?_
  exact x_sub (lv2 := [(1, _), (0, _)]) C [0, 1] rfl (lX6_becomeFirst hok (by assumption) ((16 : Int32).toNatClampNeg + 1) 0 _ (by omega) (by omega) (XC_to C rfl (by rw [fX6_becomeFirst] <;> rfl)))
theorem R_fX6_becomeFirst_l (i : Nat) : ∀ (n k : Nat) (Ω : XO), xR (fX6_becomeFirst_l i n k Ω) = xR Ω := by
  intro n
  induction n with
  | zero => intros; rfl
  | succ n ih =>
    intros
    rw [fX6_becomeFirst_l]
    (repeat' split) <;> first | rfl | (rw [ih]; done) | (rw [ih]; rfl) | (rw [ih]; funext a b9; simp only [R_uI, R_uL, R_cI, R_sPut, R_fX0_imitate, R_fX0_enter, R_fX0_addEvent, R_fX3_take, R_fX3_push, R_fX3_reach, R_fX5_append, R_fX6_copyFrom, R_fX6_gain, R_fX6_move, R_fX6_raiseNonce, R_fX7_order, R_fX7_bid, R_fX7_nameLock, R_fX9_become, R_fX0_follow, R_fX3_save, R_fX1_dropRivals_l, R_fX1_dropRivals, R_fX1_throwOutFor_l, R_fX1_throwOutFor, R_fX1_dropLower_l, R_fX1_dropLower, R_fX3_open_l, R_fX3_open, R_fX6_dropProgram_l, R_fX6_dropProgram, R_fX8_give_l, R_fX8_give, R_fX1_admit_l, R_fX1_admit, R_fX2_moveFinal_l, R_fX2_moveFinal]) | (funext a b9; simp only [R_uI, R_uL, R_cI, R_sPut, R_fX0_imitate, R_fX0_enter, R_fX0_addEvent, R_fX3_take, R_fX3_push, R_fX3_reach, R_fX5_append, R_fX6_copyFrom, R_fX6_gain, R_fX6_move, R_fX6_raiseNonce, R_fX7_order, R_fX7_bid, R_fX7_nameLock, R_fX9_become, R_fX0_follow, R_fX3_save, R_fX1_dropRivals_l, R_fX1_dropRivals, R_fX1_throwOutFor_l, R_fX1_throwOutFor, R_fX1_dropLower_l, R_fX1_dropLower, R_fX3_open_l, R_fX3_open, R_fX6_dropProgram_l, R_fX6_dropProgram, R_fX8_give_l, R_fX8_give, R_fX1_admit_l, R_fX1_admit, R_fX2_moveFinal_l, R_fX2_moveFinal])
theorem R_fX6_becomeFirst (Ω : XO) (i : Nat) : xR (fX6_becomeFirst Ω i) = xR Ω := by
  unfold fX6_becomeFirst
  (repeat' split) <;> first | rfl | (funext a b9; simp only [R_uI, R_uL, R_cI, R_sPut, R_fX0_imitate, R_fX0_enter, R_fX0_addEvent, R_fX3_take, R_fX3_push, R_fX3_reach, R_fX5_append, R_fX6_copyFrom, R_fX6_gain, R_fX6_move, R_fX6_raiseNonce, R_fX7_order, R_fX7_bid, R_fX7_nameLock, R_fX9_become, R_fX0_follow, R_fX3_save, R_fX1_dropRivals_l, R_fX1_dropRivals, R_fX1_throwOutFor_l, R_fX1_throwOutFor, R_fX1_dropLower_l, R_fX1_dropLower, R_fX3_open_l, R_fX3_open, R_fX6_dropProgram_l, R_fX6_dropProgram, R_fX8_give_l, R_fX8_give, R_fX1_admit_l, R_fX1_admit, R_fX2_moveFinal_l, R_fX2_moveFinal, R_fX6_becomeFirst_l])

def fX2_justify (Ω : XO) (i : Nat) (i1 : Nat) (i2 : Nat) : Int32 × XO := (if (xI Ω 900 i2 0) < 0 then ((0 : Int32), Ω) else (if (nI (alen 2002)) ≤ (xI Ω 900 i2 0) then ((0 : Int32), Ω) else (if (xI Ω 901 i2 0) < 0 then ((0 : Int32), Ω) else (if (xI Ω 901 i2 0) < (nI (alen 2002)) then (if (((xI Ω 15 (24 * i1 + (xI Ω 900 i2 0).toNatClampNeg) 0) >>> ((xI Ω 901 i2 0) &&& 31)) &&& (1 : Int32)) = (1 : Int32) then (if (1 : Int32) = 0 then (if (xI Ω 14 (24 * i1 + (xI Ω 900 i2 0).toNatClampNeg) 0) = 0 then ((0 : Int32), Ω) else (if (fX2_carries Ω i i2) = 0 then ((0 : Int32), Ω) else ((1 : Int32), uI (uI Ω 15 (24 * i1 + (xI Ω 900 i2 0).toNatClampNeg) 0 ((xI Ω 15 (24 * i1 + (xI Ω 900 i2 0).toNatClampNeg) 0) ||| ((1 : Int32) <<< ((xI Ω 901 i2 0) &&& 31)))) 14 (24 * i1 + (xI Ω 901 i2 0).toNatClampNeg) 0 (1 : Int32)))) else ((0 : Int32), Ω)) else (if (0 : Int32) = 0 then (if (xI Ω 14 (24 * i1 + (xI Ω 900 i2 0).toNatClampNeg) 0) = 0 then ((0 : Int32), Ω) else (if (fX2_carries Ω i i2) = 0 then ((0 : Int32), Ω) else ((1 : Int32), uI (uI Ω 15 (24 * i1 + (xI Ω 900 i2 0).toNatClampNeg) 0 ((xI Ω 15 (24 * i1 + (xI Ω 900 i2 0).toNatClampNeg) 0) ||| ((1 : Int32) <<< ((xI Ω 901 i2 0) &&& 31)))) 14 (24 * i1 + (xI Ω 901 i2 0).toNatClampNeg) 0 (1 : Int32)))) else ((0 : Int32), Ω))) else ((0 : Int32), Ω)))))
set_option maxRecDepth 20000 in
theorem tX2_justify {G : XG} (hok : XK G) {i : Nat} {i1 : Nat} {i2 : Nat} {Ω : XO} (hd0 : dm G 2 i) (hd1 : dm G 2002 i1) (hd2 : dm G 9 i2)   : XM G yX2_justify cX2_justify 6 ((some FieldType.boolean)) (RM 4 0) [.ref (ad G 2 i), .ref (ad G 2002 i1), .ref (ad G 9 i2)] Ω (.inl (some (.int ((fX2_justify Ω i i1 i2).1)))) (fX2_justify Ω i i1 i2).2 := by
  refine x_start (lv := [(0, .ref (ad G 2 i)), (1, .ref (ad G 2002 i1)), (2, .ref (ad G 9 i2))]) (own := RX2) hok (by decide +kernel) rfl (Nat.le_of_ble_eq_true rfl) rfl (fun B C => ?_)
  refine x_aload_n (pc2 := 1) C dX2_justify_0 2 rfl rfl rfl ?_
  refine x_getI (pc2 := 4) (f := 900) C (by assumption) kf_2_38 dX2_justify_1 rfl rfl rfl ?_
  refine x_istore_n (pc2 := 5) (lv2 := [(3, _), (0, _), (1, _), (2, _)]) C dX2_justify_4 rfl (by decide) rfl rfl ?_
  refine x_aload_n (pc2 := 6) C dX2_justify_5 3 rfl rfl rfl ?_
  refine x_getI (pc2 := 9) (f := 901) C (by assumption) kf_2_44 dX2_justify_6 rfl rfl rfl ?_
  refine x_istore (pc2 := 11) (lv2 := [(4, _), (3, _), (0, _), (1, _), (2, _)]) C dX2_justify_9 (by decide) rfl rfl ?_
  refine x_iload_n (pc2 := 12) C dX2_justify_11 1 rfl rfl rfl ?_
  refine x_if_lt (tgt := 33) (pc2 := 15) C dX2_justify_12 (by decide) rfl (fun qc_1 => ?_) (fun qc_1 => ?_)
  · refine x_iconst (pc2 := 34) (v := 0) C dX2_justify_33 rfl rfl ?_
    exact x_zreturn C dX2_justify_34 rfl (by first | exact Or.inl rfl | exact Or.inr rfl) (Nat.le_of_ble_eq_true rfl) (Nat.le_of_ble_eq_true rfl) (by rw [fX2_justify, if_pos qc_1] <;> rfl) (by rw [fX2_justify, if_pos qc_1] <;> rfl)
  · refine x_iload_n (pc2 := 16) C dX2_justify_15 1 rfl rfl rfl ?_
    refine x_aload_n (pc2 := 17) C dX2_justify_16 3 rfl rfl rfl ?_
    refine x_alen (pc2 := 18) C (by assumption) dX2_justify_17 rfl rfl rfl ?_
    refine x_icmp_ge (tgt := 33) (pc2 := 21) C dX2_justify_18 (by decide) rfl (fun qc_2 => ?_) (fun qc_2 => ?_)
    · refine x_iconst (pc2 := 34) (v := 0) C dX2_justify_33 rfl rfl ?_
      exact x_zreturn C dX2_justify_34 rfl (by first | exact Or.inl rfl | exact Or.inr rfl) (Nat.le_of_ble_eq_true rfl) (Nat.le_of_ble_eq_true rfl) (by rw [fX2_justify, if_neg qc_1, if_pos qc_2] <;> rfl) (by rw [fX2_justify, if_neg qc_1, if_pos qc_2] <;> rfl)
    · refine x_iload (pc2 := 23) C dX2_justify_21 0 rfl rfl ?_
      refine x_if_lt (tgt := 33) (pc2 := 26) C dX2_justify_23 (by decide) rfl (fun qc_3 => ?_) (fun qc_3 => ?_)
      · refine x_iconst (pc2 := 34) (v := 0) C dX2_justify_33 rfl rfl ?_
        exact x_zreturn C dX2_justify_34 rfl (by first | exact Or.inl rfl | exact Or.inr rfl) (Nat.le_of_ble_eq_true rfl) (Nat.le_of_ble_eq_true rfl) (by rw [fX2_justify, if_neg qc_1, if_neg qc_2, if_pos qc_3] <;> rfl) (by rw [fX2_justify, if_neg qc_1, if_neg qc_2, if_pos qc_3] <;> rfl)
      · refine x_iload (pc2 := 28) C dX2_justify_26 0 rfl rfl ?_
        refine x_aload_n (pc2 := 29) C dX2_justify_28 3 rfl rfl rfl ?_
        refine x_alen (pc2 := 30) C (by assumption) dX2_justify_29 rfl rfl rfl ?_
        refine x_icmp_lt (tgt := 35) (pc2 := 33) C dX2_justify_30 (by decide) rfl (fun qc_4 => ?_) (fun qc_4 => ?_)
        · refine x_aload_n (pc2 := 36) C dX2_justify_35 3 rfl rfl rfl ?_
          refine x_iload_n (pc2 := 37) C dX2_justify_36 1 rfl rfl rfl ?_
          refine x_aald (k2 := 0) (pc2 := 38) C (by assumption) dX2_justify_37 rfl rfl (by first | exact x_in (by assumption) (by assumption) (by decide) | exact x_in3 (by assumption) (by assumption) (by decide) | exact x_in2 (by assumption) (by assumption) (by decide)) rfl (eli_2002 _ _) rfl (fun qd_5 => ?_)
          refine x_getI (pc2 := 41) (f := 15) C (by assumption) kf_2_47 dX2_justify_38 rfl rfl rfl ?_
          refine x_iload (pc2 := 43) C dX2_justify_41 0 rfl rfl ?_
          refine x_ishr (pc2 := 44) C dX2_justify_43 rfl ?_
          refine x_iconst (pc2 := 45) (v := 1) C dX2_justify_44 rfl rfl ?_
          refine x_iand (pc2 := 46) C dX2_justify_45 rfl ?_
          refine x_iconst (pc2 := 47) (v := 1) C dX2_justify_46 rfl rfl ?_
          refine x_icmp_ne (tgt := 54) (pc2 := 50) C dX2_justify_47 (by decide) rfl (fun qc_6 => ?_) (fun qc_6 => ?_)
          · refine x_iconst (pc2 := 55) (v := 0) C dX2_justify_54 rfl rfl ?_
            refine x_istore (pc2 := 57) (lv2 := [(5, _), (4, _), (3, _), (0, _), (1, _), (2, _)]) C dX2_justify_55 (by decide) rfl rfl ?_
            refine x_iload (pc2 := 59) C dX2_justify_57 0 rfl rfl ?_
            refine x_if_ne (tgt := 79) (pc2 := 62) C dX2_justify_59 (by decide) rfl (fun qc_7 => ?_) (fun qc_7 => ?_)
            · refine x_iconst (pc2 := 80) (v := 0) C dX2_justify_79 rfl rfl ?_
              exact x_zreturn C dX2_justify_80 rfl (by first | exact Or.inl rfl | exact Or.inr rfl) (Nat.le_of_ble_eq_true rfl) (Nat.le_of_ble_eq_true rfl) (by rw [fX2_justify, if_neg qc_1, if_neg qc_2, if_neg qc_3, if_pos qc_4, if_neg qc_6, if_neg qc_7] <;> rfl) (by rw [fX2_justify, if_neg qc_1, if_neg qc_2, if_neg qc_3, if_pos qc_4, if_neg qc_6, if_neg qc_7] <;> rfl)
            · refine x_aload_n (pc2 := 63) C dX2_justify_62 4 rfl rfl rfl ?_
              refine x_iload_n (pc2 := 64) C dX2_justify_63 2 rfl rfl rfl ?_
              refine x_aald (k2 := 0) (pc2 := 65) C (by assumption) dX2_justify_64 rfl rfl (by first | exact x_in (by assumption) (by assumption) (by decide) | exact x_in3 (by assumption) (by assumption) (by decide) | exact x_in2 (by assumption) (by assumption) (by decide)) rfl (eli_2002 _ _) rfl (fun qd_8 => ?_)
              refine x_getI (pc2 := 68) (f := 14) C (by assumption) kf_2_52 dX2_justify_65 rfl rfl rfl ?_
              refine x_if_eq (tgt := 79) (pc2 := 71) C dX2_justify_68 (by decide) rfl (fun qc_9 => ?_) (fun qc_9 => ?_)
              · refine x_iconst (pc2 := 80) (v := 0) C dX2_justify_79 rfl rfl ?_
                exact x_zreturn C dX2_justify_80 rfl (by first | exact Or.inl rfl | exact Or.inr rfl) (Nat.le_of_ble_eq_true rfl) (Nat.le_of_ble_eq_true rfl) (by rw [fX2_justify, if_neg qc_1, if_neg qc_2, if_neg qc_3, if_pos qc_4, if_neg qc_6, if_pos qc_7, if_pos qc_9] <;> rfl) (by rw [fX2_justify, if_neg qc_1, if_neg qc_2, if_neg qc_3, if_pos qc_4, if_neg qc_6, if_pos qc_7, if_pos qc_9] <;> rfl)
              · refine x_aload_n (pc2 := 72) C dX2_justify_71 3 rfl rfl rfl ?_
                refine x_aload_n (pc2 := 73) C dX2_justify_72 5 rfl rfl rfl ?_
                refine x_ret (rest := []) (st2 := [_]) (pc2 := 76) (cu2 := 0) (su2 := 0) (x_cV C (by assumption) (Nat.le_of_ble_eq_true rfl) kmX2_carries rfl kk_2_56 (tX2_carries hok (by assumption) (by assumption)) rfl rfl (Nat.le_of_ble_eq_true rfl) ⟨Nat.le_of_ble_eq_true rfl, Nat.le_of_ble_eq_true rfl⟩ ⟨Nat.le_of_ble_eq_true rfl, Nat.le_of_ble_eq_true rfl⟩ dX2_justify_73) rfl rfl rfl rfl ?_
                refine x_if_ne (tgt := 81) (pc2 := 79) C dX2_justify_76 (by decide) rfl (fun qc_10 => ?_) (fun qc_10 => ?_)
                · refine x_aload_n (pc2 := 82) C dX2_justify_81 4 rfl rfl rfl ?_
                  refine x_iload_n (pc2 := 83) C dX2_justify_82 2 rfl rfl rfl ?_
                  refine x_aald (k2 := 0) (pc2 := 84) C (by assumption) dX2_justify_83 rfl rfl (by first | exact x_in (by assumption) (by assumption) (by decide) | exact x_in3 (by assumption) (by assumption) (by decide) | exact x_in2 (by assumption) (by assumption) (by decide)) rfl (eli_2002 _ _) rfl (fun qd_11 => ?_)
                  refine x_dup (pc2 := 85) C dX2_justify_84 rfl rfl ?_
                  refine x_getI (pc2 := 88) (f := 15) C (by assumption) kf_2_47 dX2_justify_85 rfl rfl rfl ?_
                  refine x_iconst (pc2 := 89) (v := 1) C dX2_justify_88 rfl rfl ?_
                  refine x_iload (pc2 := 91) C dX2_justify_89 1 rfl rfl ?_
                  refine x_ishl (pc2 := 92) C dX2_justify_91 rfl ?_
                  refine x_ior (pc2 := 93) C dX2_justify_92 rfl ?_
                  refine x_putI (pc2 := 96) (f := 15) C (by assumption) kf_2_47 dX2_justify_93 rfl rfl rfl rfl rfl ?_
                  refine x_aload_n (pc2 := 97) C dX2_justify_96 4 rfl rfl rfl ?_
                  refine x_iload (pc2 := 99) C dX2_justify_97 1 rfl rfl ?_
                  refine x_aald (k2 := 0) (pc2 := 100) C (by assumption) dX2_justify_99 rfl rfl (by first | exact x_in (by assumption) (by assumption) (by decide) | exact x_in3 (by assumption) (by assumption) (by decide) | exact x_in2 (by assumption) (by assumption) (by decide)) rfl (eli_2002 _ _) rfl (fun qd_12 => ?_)
                  refine x_iconst (pc2 := 101) (v := 1) C dX2_justify_100 rfl rfl ?_
                  refine x_putZ (pc2 := 104) (f := 14) C (by assumption) kf_2_52 dX2_justify_101 rfl rfl rfl (by first | exact Or.inl rfl | exact Or.inr rfl) rfl rfl ?_
                  refine x_iconst (pc2 := 105) (v := 1) C dX2_justify_104 rfl rfl ?_
                  exact x_zreturn C dX2_justify_105 rfl (by first | exact Or.inl rfl | exact Or.inr rfl) (Nat.le_of_ble_eq_true rfl) (Nat.le_of_ble_eq_true rfl) (by rw [fX2_justify, if_neg qc_1, if_neg qc_2, if_neg qc_3, if_pos qc_4, if_neg qc_6, if_pos qc_7, if_neg qc_9, if_neg qc_10] <;> rfl) (by rw [fX2_justify, if_neg qc_1, if_neg qc_2, if_neg qc_3, if_pos qc_4, if_neg qc_6, if_pos qc_7, if_neg qc_9, if_neg qc_10] <;> rfl)
                · refine x_iconst (pc2 := 80) (v := 0) C dX2_justify_79 rfl rfl ?_
                  exact x_zreturn C dX2_justify_80 rfl (by first | exact Or.inl rfl | exact Or.inr rfl) (Nat.le_of_ble_eq_true rfl) (Nat.le_of_ble_eq_true rfl) (by rw [fX2_justify, if_neg qc_1, if_neg qc_2, if_neg qc_3, if_pos qc_4, if_neg qc_6, if_pos qc_7, if_neg qc_9, if_pos qc_10] <;> rfl) (by rw [fX2_justify, if_neg qc_1, if_neg qc_2, if_neg qc_3, if_pos qc_4, if_neg qc_6, if_pos qc_7, if_neg qc_9, if_pos qc_10] <;> rfl)
          · refine x_iconst (pc2 := 51) (v := 1) C dX2_justify_50 rfl rfl ?_
            refine x_goto (tgt := 55) C dX2_justify_51 (by decide) ?_
            refine x_istore (pc2 := 57) (lv2 := [(5, _), (4, _), (3, _), (0, _), (1, _), (2, _)]) C dX2_justify_55 (by decide) rfl rfl ?_
            refine x_iload (pc2 := 59) C dX2_justify_57 0 rfl rfl ?_
            refine x_if_ne (tgt := 79) (pc2 := 62) C dX2_justify_59 (by decide) rfl (fun qc_13 => ?_) (fun qc_13 => ?_)
            · refine x_iconst (pc2 := 80) (v := 0) C dX2_justify_79 rfl rfl ?_
              exact x_zreturn C dX2_justify_80 rfl (by first | exact Or.inl rfl | exact Or.inr rfl) (Nat.le_of_ble_eq_true rfl) (Nat.le_of_ble_eq_true rfl) (by rw [fX2_justify, if_neg qc_1, if_neg qc_2, if_neg qc_3, if_pos qc_4, if_pos qc_6, if_neg qc_13] <;> rfl) (by rw [fX2_justify, if_neg qc_1, if_neg qc_2, if_neg qc_3, if_pos qc_4, if_pos qc_6, if_neg qc_13] <;> rfl)
            · refine x_aload_n (pc2 := 63) C dX2_justify_62 4 rfl rfl rfl ?_
              refine x_iload_n (pc2 := 64) C dX2_justify_63 2 rfl rfl rfl ?_
              refine x_aald (k2 := 0) (pc2 := 65) C (by assumption) dX2_justify_64 rfl rfl (by first | exact x_in (by assumption) (by assumption) (by decide) | exact x_in3 (by assumption) (by assumption) (by decide) | exact x_in2 (by assumption) (by assumption) (by decide)) rfl (eli_2002 _ _) rfl (fun qd_14 => ?_)
              refine x_getI (pc2 := 68) (f := 14) C (by assumption) kf_2_52 dX2_justify_65 rfl rfl rfl ?_
              refine x_if_eq (tgt := 79) (pc2 := 71) C dX2_justify_68 (by decide) rfl (fun qc_15 => ?_) (fun qc_15 => ?_)
              · refine x_iconst (pc2 := 80) (v := 0) C dX2_justify_79 rfl rfl ?_
                exact x_zreturn C dX2_justify_80 rfl (by first | exact Or.inl rfl | exact Or.inr rfl) (Nat.le_of_ble_eq_true rfl) (Nat.le_of_ble_eq_true rfl) (by rw [fX2_justify, if_neg qc_1, if_neg qc_2, if_neg qc_3, if_pos qc_4, if_pos qc_6, if_pos qc_13, if_pos qc_15] <;> rfl) (by rw [fX2_justify, if_neg qc_1, if_neg qc_2, if_neg qc_3, if_pos qc_4, if_pos qc_6, if_pos qc_13, if_pos qc_15] <;> rfl)
              · refine x_aload_n (pc2 := 72) C dX2_justify_71 3 rfl rfl rfl ?_
                refine x_aload_n (pc2 := 73) C dX2_justify_72 5 rfl rfl rfl ?_
                refine x_ret (rest := []) (st2 := [_]) (pc2 := 76) (cu2 := 0) (su2 := 0) (x_cV C (by assumption) (Nat.le_of_ble_eq_true rfl) kmX2_carries rfl kk_2_56 (tX2_carries hok (by assumption) (by assumption)) rfl rfl (Nat.le_of_ble_eq_true rfl) ⟨Nat.le_of_ble_eq_true rfl, Nat.le_of_ble_eq_true rfl⟩ ⟨Nat.le_of_ble_eq_true rfl, Nat.le_of_ble_eq_true rfl⟩ dX2_justify_73) rfl rfl rfl rfl ?_
                refine x_if_ne (tgt := 81) (pc2 := 79) C dX2_justify_76 (by decide) rfl (fun qc_16 => ?_) (fun qc_16 => ?_)
                · refine x_aload_n (pc2 := 82) C dX2_justify_81 4 rfl rfl rfl ?_
                  refine x_iload_n (pc2 := 83) C dX2_justify_82 2 rfl rfl rfl ?_
                  refine x_aald (k2 := 0) (pc2 := 84) C (by assumption) dX2_justify_83 rfl rfl (by first | exact x_in (by assumption) (by assumption) (by decide) | exact x_in3 (by assumption) (by assumption) (by decide) | exact x_in2 (by assumption) (by assumption) (by decide)) rfl (eli_2002 _ _) rfl (fun qd_17 => ?_)
                  refine x_dup (pc2 := 85) C dX2_justify_84 rfl rfl ?_
                  refine x_getI (pc2 := 88) (f := 15) C (by assumption) kf_2_47 dX2_justify_85 rfl rfl rfl ?_
                  refine x_iconst (pc2 := 89) (v := 1) C dX2_justify_88 rfl rfl ?_
                  refine x_iload (pc2 := 91) C dX2_justify_89 1 rfl rfl ?_
                  refine x_ishl (pc2 := 92) C dX2_justify_91 rfl ?_
                  refine x_ior (pc2 := 93) C dX2_justify_92 rfl ?_
                  refine x_putI (pc2 := 96) (f := 15) C (by assumption) kf_2_47 dX2_justify_93 rfl rfl rfl rfl rfl ?_
                  refine x_aload_n (pc2 := 97) C dX2_justify_96 4 rfl rfl rfl ?_
                  refine x_iload (pc2 := 99) C dX2_justify_97 1 rfl rfl ?_
                  refine x_aald (k2 := 0) (pc2 := 100) C (by assumption) dX2_justify_99 rfl rfl (by first | exact x_in (by assumption) (by assumption) (by decide) | exact x_in3 (by assumption) (by assumption) (by decide) | exact x_in2 (by assumption) (by assumption) (by decide)) rfl (eli_2002 _ _) rfl (fun qd_18 => ?_)
                  refine x_iconst (pc2 := 101) (v := 1) C dX2_justify_100 rfl rfl ?_
                  refine x_putZ (pc2 := 104) (f := 14) C (by assumption) kf_2_52 dX2_justify_101 rfl rfl rfl (by first | exact Or.inl rfl | exact Or.inr rfl) rfl rfl ?_
                  refine x_iconst (pc2 := 105) (v := 1) C dX2_justify_104 rfl rfl ?_
                  exact x_zreturn C dX2_justify_105 rfl (by first | exact Or.inl rfl | exact Or.inr rfl) (Nat.le_of_ble_eq_true rfl) (Nat.le_of_ble_eq_true rfl) (by rw [fX2_justify, if_neg qc_1, if_neg qc_2, if_neg qc_3, if_pos qc_4, if_pos qc_6, if_pos qc_13, if_neg qc_15, if_neg qc_16] <;> rfl) (by rw [fX2_justify, if_neg qc_1, if_neg qc_2, if_neg qc_3, if_pos qc_4, if_pos qc_6, if_pos qc_13, if_neg qc_15, if_neg qc_16] <;> rfl)
                · refine x_iconst (pc2 := 80) (v := 0) C dX2_justify_79 rfl rfl ?_
                  exact x_zreturn C dX2_justify_80 rfl (by first | exact Or.inl rfl | exact Or.inr rfl) (Nat.le_of_ble_eq_true rfl) (Nat.le_of_ble_eq_true rfl) (by rw [fX2_justify, if_neg qc_1, if_neg qc_2, if_neg qc_3, if_pos qc_4, if_pos qc_6, if_pos qc_13, if_neg qc_15, if_pos qc_16] <;> rfl) (by rw [fX2_justify, if_neg qc_1, if_neg qc_2, if_neg qc_3, if_pos qc_4, if_pos qc_6, if_pos qc_13, if_neg qc_15, if_pos qc_16] <;> rfl)
        · refine x_iconst (pc2 := 34) (v := 0) C dX2_justify_33 rfl rfl ?_
          exact x_zreturn C dX2_justify_34 rfl (by first | exact Or.inl rfl | exact Or.inr rfl) (Nat.le_of_ble_eq_true rfl) (Nat.le_of_ble_eq_true rfl) (by rw [fX2_justify, if_neg qc_1, if_neg qc_2, if_neg qc_3, if_neg qc_4] <;> rfl) (by rw [fX2_justify, if_neg qc_1, if_neg qc_2, if_neg qc_3, if_neg qc_4] <;> rfl)
theorem R_fX2_justify (Ω : XO) (i : Nat) (i1 : Nat) (i2 : Nat) : xR (fX2_justify Ω i i1 i2).2 = xR Ω := by
  unfold fX2_justify
  (repeat' split) <;> first | rfl | (funext a b9; simp only [R_uI, R_uL, R_cI, R_sPut, R_fX0_imitate, R_fX0_enter, R_fX0_addEvent, R_fX3_take, R_fX3_push, R_fX3_reach, R_fX5_append, R_fX6_copyFrom, R_fX6_gain, R_fX6_move, R_fX6_raiseNonce, R_fX7_order, R_fX7_bid, R_fX7_nameLock, R_fX9_become, R_fX0_follow, R_fX3_save, R_fX1_dropRivals_l, R_fX1_dropRivals, R_fX1_throwOutFor_l, R_fX1_throwOutFor, R_fX1_dropLower_l, R_fX1_dropLower, R_fX3_open_l, R_fX3_open, R_fX6_dropProgram_l, R_fX6_dropProgram, R_fX8_give_l, R_fX8_give, R_fX1_admit_l, R_fX1_admit, R_fX2_moveFinal_l, R_fX2_moveFinal, R_fX6_becomeFirst_l, R_fX6_becomeFirst])
