def fX10_nodeOver_l (Ω : XO) (i : Nat) : Nat → Int32 → Int32 → Int32
  | 0, _, p => fX6_leafOf Ω i p
  | n + 1, r, p => if r ≤ 0 then fX6_leafOf Ω i p else if r ≤ 4 then sMix (fX10_nodeOver_l Ω i n (r - 1) (2 * p)) (fX10_nodeOver_l Ω i n (r - 1) (2 * p + 1)) else fX6_leafOf Ω i p
theorem nO_s (Ω : XO) (i n : Nat) (r p : Int32) : fX10_nodeOver_l Ω i (n + 1) r p = if r ≤ 0 then fX6_leafOf Ω i p else if r ≤ 4 then sMix (fX10_nodeOver_l Ω i n (r - 1) (2 * p)) (fX10_nodeOver_l Ω i n (r - 1) (2 * p + 1)) else fX6_leafOf Ω i p := rfl
def fX10_nodeOver (Ω : XO) (i : Nat) (r p : Int32) : Int32 := fX10_nodeOver_l Ω i 4 r p
theorem nO_r {r : Int32} {n : Nat} (hn : n < 100) (h : r ≤ 0 ∨ ¬ r ≤ 4 ∨ r ≤ nI (n + 1)) : r ≤ 0 ∨ ¬ r ≤ 4 ∨ r - 1 ≤ 0 ∨ ¬ r - 1 ≤ 4 ∨ r - 1 ≤ nI n := by
  rcases Decidable.em (r ≤ 0) with q | q
  · exact Or.inl q
  · rcases h with h | h | h
    · exact absurd h q
    · exact Or.inr (Or.inl h)
    · refine Or.inr (Or.inr (Or.inr (Or.inr ?_)))
      have h3 : ¬ r < 0 := fun h9 => q (Int32.le_of_lt h9)
      obtain ⟨j, hj, rfl⟩ := nI_of h3
      have h4 : j ≤ n + 1 := (nI_leI hj (by omega)).mp h
      have h5 : ¬ j ≤ 0 := fun h9 => q ((nI_leI hj (by decide)).mpr h9)
      obtain ⟨k, rfl⟩ : ∃ k, j = k + 1 := ⟨j - 1, by omega⟩
      rw [nI_pred]
      exact (nI_leI (by omega) (by omega)).mpr (by omega)
set_option maxRecDepth 20000 in
theorem tX10_nodeOver_0 {G : XG} (hok : XK G) {i : Nat} {r p : Int32} {Ω : XO} (hd0 : dm G 6 i) (hr : r ≤ 0 ∨ ¬ r ≤ 4 ∨ r ≤ nI 0) : XM G yX10_nodeOver cX10_nodeOver 3 (some FieldType.int) (RM 2 0) [.ref (ad G 6 i), .int r, .int p] Ω (.inl (some (.int (fX10_nodeOver_l Ω i 0 r p)))) Ω := by
  refine x_start (lv := [(0, .ref (ad G 6 i)), (1, .int r), (2, .int p)]) (own := RX10) hok (by decide +kernel) rfl (Nat.le_of_ble_eq_true rfl) rfl (fun B C => ?_)
  refine x_iload_n (pc2 := 1) C dX10_nodeOver_0 1 rfl rfl rfl ?_
  refine x_if_le (tgt := 9) (pc2 := 4) C dX10_nodeOver_1 (by decide) rfl (fun qc_1 => ?_) (fun qc_1 => ?_)
  · refine x_aload_n (pc2 := 10) C dX10_nodeOver_9 0 rfl rfl rfl ?_
    refine x_iload_n (pc2 := 11) C dX10_nodeOver_10 2 rfl rfl rfl ?_
    refine x_ret (rest := []) (st2 := [_]) (pc2 := 14) (cu2 := 0) (su2 := 0) (x_cV C (by assumption) (Nat.le_of_ble_eq_true rfl) kmX6_leafOf rfl kk_10_269 (tX6_leafOf hok (by assumption)) rfl rfl (Nat.le_of_ble_eq_true rfl) ⟨Nat.le_of_ble_eq_true rfl, Nat.le_of_ble_eq_true rfl⟩ ⟨Nat.le_of_ble_eq_true rfl, Nat.le_of_ble_eq_true rfl⟩ dX10_nodeOver_11) rfl rfl rfl rfl ?_
    exact x_ireturn C dX10_nodeOver_14 rfl (Nat.le_of_ble_eq_true rfl) (Nat.le_of_ble_eq_true rfl) (by rfl) rfl
  · refine x_iload_n (pc2 := 5) C dX10_nodeOver_4 1 rfl rfl rfl ?_
    refine x_iconst (pc2 := 6) (v := 4) C dX10_nodeOver_5 rfl rfl ?_
    refine x_icmp_le (tgt := 15) (pc2 := 9) C dX10_nodeOver_6 (by decide) rfl (fun qc_2 => ?_) (fun qc_2 => ?_)
    · exfalso
      rcases hr with h | h | h
      · exact qc_1 h
      · exact h qc_2
      · exact qc_1 h
    · refine x_aload_n (pc2 := 10) C dX10_nodeOver_9 0 rfl rfl rfl ?_
      refine x_iload_n (pc2 := 11) C dX10_nodeOver_10 2 rfl rfl rfl ?_
      refine x_ret (rest := []) (st2 := [_]) (pc2 := 14) (cu2 := 0) (su2 := 0) (x_cV C (by assumption) (Nat.le_of_ble_eq_true rfl) kmX6_leafOf rfl kk_10_269 (tX6_leafOf hok (by assumption)) rfl rfl (Nat.le_of_ble_eq_true rfl) ⟨Nat.le_of_ble_eq_true rfl, Nat.le_of_ble_eq_true rfl⟩ ⟨Nat.le_of_ble_eq_true rfl, Nat.le_of_ble_eq_true rfl⟩ dX10_nodeOver_11) rfl rfl rfl rfl ?_
      exact x_ireturn C dX10_nodeOver_14 rfl (Nat.le_of_ble_eq_true rfl) (Nat.le_of_ble_eq_true rfl) (by rfl) rfl
set_option maxRecDepth 20000 in
theorem tX10_nodeOver_1 {G : XG} (hok : XK G) {i : Nat} {r p : Int32} {Ω : XO} (hd0 : dm G 6 i) (hr : r ≤ 0 ∨ ¬ r ≤ 4 ∨ r ≤ nI 1) : XM G yX10_nodeOver cX10_nodeOver 3 (some FieldType.int) (RM 3 0) [.ref (ad G 6 i), .int r, .int p] Ω (.inl (some (.int (fX10_nodeOver_l Ω i 1 r p)))) Ω := by
  refine x_start (lv := [(0, .ref (ad G 6 i)), (1, .int r), (2, .int p)]) (own := RX10) hok (by decide +kernel) rfl (Nat.le_of_ble_eq_true rfl) rfl (fun B C => ?_)
  refine x_iload_n (pc2 := 1) C dX10_nodeOver_0 1 rfl rfl rfl ?_
  refine x_if_le (tgt := 9) (pc2 := 4) C dX10_nodeOver_1 (by decide) rfl (fun qc_1 => ?_) (fun qc_1 => ?_)
  · refine x_aload_n (pc2 := 10) C dX10_nodeOver_9 0 rfl rfl rfl ?_
    refine x_iload_n (pc2 := 11) C dX10_nodeOver_10 2 rfl rfl rfl ?_
    refine x_ret (rest := []) (st2 := [_]) (pc2 := 14) (cu2 := 0) (su2 := 0) (x_cV C (by assumption) (Nat.le_of_ble_eq_true rfl) kmX6_leafOf rfl kk_10_269 (tX6_leafOf hok (by assumption)) rfl rfl (Nat.le_of_ble_eq_true rfl) ⟨Nat.le_of_ble_eq_true rfl, Nat.le_of_ble_eq_true rfl⟩ ⟨Nat.le_of_ble_eq_true rfl, Nat.le_of_ble_eq_true rfl⟩ dX10_nodeOver_11) rfl rfl rfl rfl ?_
    exact x_ireturn C dX10_nodeOver_14 rfl (Nat.le_of_ble_eq_true rfl) (Nat.le_of_ble_eq_true rfl) (by show Sum.inl (some (Value.int (fX10_nodeOver_l Ω i (0 + 1) r p))) = _; rw [nO_s, if_pos qc_1]) rfl
  · refine x_iload_n (pc2 := 5) C dX10_nodeOver_4 1 rfl rfl rfl ?_
    refine x_iconst (pc2 := 6) (v := 4) C dX10_nodeOver_5 rfl rfl ?_
    refine x_icmp_le (tgt := 15) (pc2 := 9) C dX10_nodeOver_6 (by decide) rfl (fun qc_2 => ?_) (fun qc_2 => ?_)
    · have h7 := ((nO_r (by decide) hr).resolve_left qc_1).resolve_left (fun h => h qc_2)
      refine x_aload_n (pc2 := 16) C dX10_nodeOver_15 0 rfl rfl rfl ?_
      refine x_iload_n (pc2 := 17) C dX10_nodeOver_16 1 rfl rfl rfl ?_
      refine x_iconst (pc2 := 18) (v := 1) C dX10_nodeOver_17 rfl rfl ?_
      refine x_isub (pc2 := 19) C dX10_nodeOver_18 rfl ?_
      refine x_iconst (pc2 := 20) (v := 2) C dX10_nodeOver_19 rfl rfl ?_
      refine x_iload_n (pc2 := 21) C dX10_nodeOver_20 2 rfl rfl rfl ?_
      refine x_imul (pc2 := 22) C dX10_nodeOver_21 rfl ?_
      refine x_ret (rest := []) (st2 := [_]) (pc2 := 25) (cu2 := 0) (su2 := 0) (x_cS C kmX10_nodeOver kk_10_189 (tX10_nodeOver_0 hok (by assumption) h7) rfl rfl (Nat.le_of_ble_eq_true rfl) ⟨Nat.le_of_ble_eq_true rfl, Nat.le_of_ble_eq_true rfl⟩ ⟨Nat.le_of_ble_eq_true rfl, Nat.le_of_ble_eq_true rfl⟩ dX10_nodeOver_22) rfl rfl rfl rfl ?_
      refine x_aload_n (pc2 := 26) C dX10_nodeOver_25 0 rfl rfl rfl ?_
      refine x_iload_n (pc2 := 27) C dX10_nodeOver_26 1 rfl rfl rfl ?_
      refine x_iconst (pc2 := 28) (v := 1) C dX10_nodeOver_27 rfl rfl ?_
      refine x_isub (pc2 := 29) C dX10_nodeOver_28 rfl ?_
      refine x_iconst (pc2 := 30) (v := 2) C dX10_nodeOver_29 rfl rfl ?_
      refine x_iload_n (pc2 := 31) C dX10_nodeOver_30 2 rfl rfl rfl ?_
      refine x_imul (pc2 := 32) C dX10_nodeOver_31 rfl ?_
      refine x_iconst (pc2 := 33) (v := 1) C dX10_nodeOver_32 rfl rfl ?_
      refine x_iadd (pc2 := 34) C dX10_nodeOver_33 rfl ?_
      refine x_ret (rest := [_]) (st2 := [_, _]) (pc2 := 37) (cu2 := 0) (su2 := 0) (x_cS C kmX10_nodeOver kk_10_189 (tX10_nodeOver_0 hok (by assumption) h7) rfl rfl (Nat.le_of_ble_eq_true rfl) ⟨Nat.le_of_ble_eq_true rfl, Nat.le_of_ble_eq_true rfl⟩ ⟨Nat.le_of_ble_eq_true rfl, Nat.le_of_ble_eq_true rfl⟩ dX10_nodeOver_34) rfl rfl rfl rfl ?_
      refine x_ret (rest := []) (st2 := [_]) (pc2 := 40) (cu2 := 0) (su2 := 0) (x_cS C kmX10_mix kk_10_265 (tX10_mix hok) rfl rfl (Nat.le_of_ble_eq_true rfl) ⟨Nat.le_of_ble_eq_true rfl, Nat.le_of_ble_eq_true rfl⟩ ⟨Nat.le_of_ble_eq_true rfl, Nat.le_of_ble_eq_true rfl⟩ dX10_nodeOver_37) rfl rfl rfl rfl ?_
      exact x_ireturn C dX10_nodeOver_40 rfl (Nat.le_of_ble_eq_true rfl) (Nat.le_of_ble_eq_true rfl) (by show Sum.inl (some (Value.int (fX10_nodeOver_l Ω i (0 + 1) r p))) = _; rw [nO_s, if_neg qc_1, if_pos qc_2]) rfl
    · refine x_aload_n (pc2 := 10) C dX10_nodeOver_9 0 rfl rfl rfl ?_
      refine x_iload_n (pc2 := 11) C dX10_nodeOver_10 2 rfl rfl rfl ?_
      refine x_ret (rest := []) (st2 := [_]) (pc2 := 14) (cu2 := 0) (su2 := 0) (x_cV C (by assumption) (Nat.le_of_ble_eq_true rfl) kmX6_leafOf rfl kk_10_269 (tX6_leafOf hok (by assumption)) rfl rfl (Nat.le_of_ble_eq_true rfl) ⟨Nat.le_of_ble_eq_true rfl, Nat.le_of_ble_eq_true rfl⟩ ⟨Nat.le_of_ble_eq_true rfl, Nat.le_of_ble_eq_true rfl⟩ dX10_nodeOver_11) rfl rfl rfl rfl ?_
      exact x_ireturn C dX10_nodeOver_14 rfl (Nat.le_of_ble_eq_true rfl) (Nat.le_of_ble_eq_true rfl) (by show Sum.inl (some (Value.int (fX10_nodeOver_l Ω i (0 + 1) r p))) = _; rw [nO_s, if_neg qc_1, if_neg qc_2]) rfl
set_option maxRecDepth 20000 in
theorem tX10_nodeOver_2 {G : XG} (hok : XK G) {i : Nat} {r p : Int32} {Ω : XO} (hd0 : dm G 6 i) (hr : r ≤ 0 ∨ ¬ r ≤ 4 ∨ r ≤ nI 2) : XM G yX10_nodeOver cX10_nodeOver 3 (some FieldType.int) (RM 4 0) [.ref (ad G 6 i), .int r, .int p] Ω (.inl (some (.int (fX10_nodeOver_l Ω i 2 r p)))) Ω := by
  refine x_start (lv := [(0, .ref (ad G 6 i)), (1, .int r), (2, .int p)]) (own := RX10) hok (by decide +kernel) rfl (Nat.le_of_ble_eq_true rfl) rfl (fun B C => ?_)
  refine x_iload_n (pc2 := 1) C dX10_nodeOver_0 1 rfl rfl rfl ?_
  refine x_if_le (tgt := 9) (pc2 := 4) C dX10_nodeOver_1 (by decide) rfl (fun qc_1 => ?_) (fun qc_1 => ?_)
  · refine x_aload_n (pc2 := 10) C dX10_nodeOver_9 0 rfl rfl rfl ?_
    refine x_iload_n (pc2 := 11) C dX10_nodeOver_10 2 rfl rfl rfl ?_
    refine x_ret (rest := []) (st2 := [_]) (pc2 := 14) (cu2 := 0) (su2 := 0) (x_cV C (by assumption) (Nat.le_of_ble_eq_true rfl) kmX6_leafOf rfl kk_10_269 (tX6_leafOf hok (by assumption)) rfl rfl (Nat.le_of_ble_eq_true rfl) ⟨Nat.le_of_ble_eq_true rfl, Nat.le_of_ble_eq_true rfl⟩ ⟨Nat.le_of_ble_eq_true rfl, Nat.le_of_ble_eq_true rfl⟩ dX10_nodeOver_11) rfl rfl rfl rfl ?_
    exact x_ireturn C dX10_nodeOver_14 rfl (Nat.le_of_ble_eq_true rfl) (Nat.le_of_ble_eq_true rfl) (by show Sum.inl (some (Value.int (fX10_nodeOver_l Ω i (1 + 1) r p))) = _; rw [nO_s, if_pos qc_1]) rfl
  · refine x_iload_n (pc2 := 5) C dX10_nodeOver_4 1 rfl rfl rfl ?_
    refine x_iconst (pc2 := 6) (v := 4) C dX10_nodeOver_5 rfl rfl ?_
    refine x_icmp_le (tgt := 15) (pc2 := 9) C dX10_nodeOver_6 (by decide) rfl (fun qc_2 => ?_) (fun qc_2 => ?_)
    · have h7 := ((nO_r (by decide) hr).resolve_left qc_1).resolve_left (fun h => h qc_2)
      refine x_aload_n (pc2 := 16) C dX10_nodeOver_15 0 rfl rfl rfl ?_
      refine x_iload_n (pc2 := 17) C dX10_nodeOver_16 1 rfl rfl rfl ?_
      refine x_iconst (pc2 := 18) (v := 1) C dX10_nodeOver_17 rfl rfl ?_
      refine x_isub (pc2 := 19) C dX10_nodeOver_18 rfl ?_
      refine x_iconst (pc2 := 20) (v := 2) C dX10_nodeOver_19 rfl rfl ?_
      refine x_iload_n (pc2 := 21) C dX10_nodeOver_20 2 rfl rfl rfl ?_
      refine x_imul (pc2 := 22) C dX10_nodeOver_21 rfl ?_
      refine x_ret (rest := []) (st2 := [_]) (pc2 := 25) (cu2 := 0) (su2 := 0) (x_cS C kmX10_nodeOver kk_10_189 (tX10_nodeOver_1 hok (by assumption) h7) rfl rfl (Nat.le_of_ble_eq_true rfl) ⟨Nat.le_of_ble_eq_true rfl, Nat.le_of_ble_eq_true rfl⟩ ⟨Nat.le_of_ble_eq_true rfl, Nat.le_of_ble_eq_true rfl⟩ dX10_nodeOver_22) rfl rfl rfl rfl ?_
      refine x_aload_n (pc2 := 26) C dX10_nodeOver_25 0 rfl rfl rfl ?_
      refine x_iload_n (pc2 := 27) C dX10_nodeOver_26 1 rfl rfl rfl ?_
      refine x_iconst (pc2 := 28) (v := 1) C dX10_nodeOver_27 rfl rfl ?_
      refine x_isub (pc2 := 29) C dX10_nodeOver_28 rfl ?_
      refine x_iconst (pc2 := 30) (v := 2) C dX10_nodeOver_29 rfl rfl ?_
      refine x_iload_n (pc2 := 31) C dX10_nodeOver_30 2 rfl rfl rfl ?_
      refine x_imul (pc2 := 32) C dX10_nodeOver_31 rfl ?_
      refine x_iconst (pc2 := 33) (v := 1) C dX10_nodeOver_32 rfl rfl ?_
      refine x_iadd (pc2 := 34) C dX10_nodeOver_33 rfl ?_
      refine x_ret (rest := [_]) (st2 := [_, _]) (pc2 := 37) (cu2 := 0) (su2 := 0) (x_cS C kmX10_nodeOver kk_10_189 (tX10_nodeOver_1 hok (by assumption) h7) rfl rfl (Nat.le_of_ble_eq_true rfl) ⟨Nat.le_of_ble_eq_true rfl, Nat.le_of_ble_eq_true rfl⟩ ⟨Nat.le_of_ble_eq_true rfl, Nat.le_of_ble_eq_true rfl⟩ dX10_nodeOver_34) rfl rfl rfl rfl ?_
      refine x_ret (rest := []) (st2 := [_]) (pc2 := 40) (cu2 := 0) (su2 := 0) (x_cS C kmX10_mix kk_10_265 (tX10_mix hok) rfl rfl (Nat.le_of_ble_eq_true rfl) ⟨Nat.le_of_ble_eq_true rfl, Nat.le_of_ble_eq_true rfl⟩ ⟨Nat.le_of_ble_eq_true rfl, Nat.le_of_ble_eq_true rfl⟩ dX10_nodeOver_37) rfl rfl rfl rfl ?_
      exact x_ireturn C dX10_nodeOver_40 rfl (Nat.le_of_ble_eq_true rfl) (Nat.le_of_ble_eq_true rfl) (by show Sum.inl (some (Value.int (fX10_nodeOver_l Ω i (1 + 1) r p))) = _; rw [nO_s, if_neg qc_1, if_pos qc_2]) rfl
    · refine x_aload_n (pc2 := 10) C dX10_nodeOver_9 0 rfl rfl rfl ?_
      refine x_iload_n (pc2 := 11) C dX10_nodeOver_10 2 rfl rfl rfl ?_
      refine x_ret (rest := []) (st2 := [_]) (pc2 := 14) (cu2 := 0) (su2 := 0) (x_cV C (by assumption) (Nat.le_of_ble_eq_true rfl) kmX6_leafOf rfl kk_10_269 (tX6_leafOf hok (by assumption)) rfl rfl (Nat.le_of_ble_eq_true rfl) ⟨Nat.le_of_ble_eq_true rfl, Nat.le_of_ble_eq_true rfl⟩ ⟨Nat.le_of_ble_eq_true rfl, Nat.le_of_ble_eq_true rfl⟩ dX10_nodeOver_11) rfl rfl rfl rfl ?_
      exact x_ireturn C dX10_nodeOver_14 rfl (Nat.le_of_ble_eq_true rfl) (Nat.le_of_ble_eq_true rfl) (by show Sum.inl (some (Value.int (fX10_nodeOver_l Ω i (1 + 1) r p))) = _; rw [nO_s, if_neg qc_1, if_neg qc_2]) rfl
set_option maxRecDepth 20000 in
theorem tX10_nodeOver_3 {G : XG} (hok : XK G) {i : Nat} {r p : Int32} {Ω : XO} (hd0 : dm G 6 i) (hr : r ≤ 0 ∨ ¬ r ≤ 4 ∨ r ≤ nI 3) : XM G yX10_nodeOver cX10_nodeOver 3 (some FieldType.int) (RM 5 0) [.ref (ad G 6 i), .int r, .int p] Ω (.inl (some (.int (fX10_nodeOver_l Ω i 3 r p)))) Ω := by
  refine x_start (lv := [(0, .ref (ad G 6 i)), (1, .int r), (2, .int p)]) (own := RX10) hok (by decide +kernel) rfl (Nat.le_of_ble_eq_true rfl) rfl (fun B C => ?_)
  refine x_iload_n (pc2 := 1) C dX10_nodeOver_0 1 rfl rfl rfl ?_
  refine x_if_le (tgt := 9) (pc2 := 4) C dX10_nodeOver_1 (by decide) rfl (fun qc_1 => ?_) (fun qc_1 => ?_)
  · refine x_aload_n (pc2 := 10) C dX10_nodeOver_9 0 rfl rfl rfl ?_
    refine x_iload_n (pc2 := 11) C dX10_nodeOver_10 2 rfl rfl rfl ?_
    refine x_ret (rest := []) (st2 := [_]) (pc2 := 14) (cu2 := 0) (su2 := 0) (x_cV C (by assumption) (Nat.le_of_ble_eq_true rfl) kmX6_leafOf rfl kk_10_269 (tX6_leafOf hok (by assumption)) rfl rfl (Nat.le_of_ble_eq_true rfl) ⟨Nat.le_of_ble_eq_true rfl, Nat.le_of_ble_eq_true rfl⟩ ⟨Nat.le_of_ble_eq_true rfl, Nat.le_of_ble_eq_true rfl⟩ dX10_nodeOver_11) rfl rfl rfl rfl ?_
    exact x_ireturn C dX10_nodeOver_14 rfl (Nat.le_of_ble_eq_true rfl) (Nat.le_of_ble_eq_true rfl) (by show Sum.inl (some (Value.int (fX10_nodeOver_l Ω i (2 + 1) r p))) = _; rw [nO_s, if_pos qc_1]) rfl
  · refine x_iload_n (pc2 := 5) C dX10_nodeOver_4 1 rfl rfl rfl ?_
    refine x_iconst (pc2 := 6) (v := 4) C dX10_nodeOver_5 rfl rfl ?_
    refine x_icmp_le (tgt := 15) (pc2 := 9) C dX10_nodeOver_6 (by decide) rfl (fun qc_2 => ?_) (fun qc_2 => ?_)
    · have h7 := ((nO_r (by decide) hr).resolve_left qc_1).resolve_left (fun h => h qc_2)
      refine x_aload_n (pc2 := 16) C dX10_nodeOver_15 0 rfl rfl rfl ?_
      refine x_iload_n (pc2 := 17) C dX10_nodeOver_16 1 rfl rfl rfl ?_
      refine x_iconst (pc2 := 18) (v := 1) C dX10_nodeOver_17 rfl rfl ?_
      refine x_isub (pc2 := 19) C dX10_nodeOver_18 rfl ?_
      refine x_iconst (pc2 := 20) (v := 2) C dX10_nodeOver_19 rfl rfl ?_
      refine x_iload_n (pc2 := 21) C dX10_nodeOver_20 2 rfl rfl rfl ?_
      refine x_imul (pc2 := 22) C dX10_nodeOver_21 rfl ?_
      refine x_ret (rest := []) (st2 := [_]) (pc2 := 25) (cu2 := 0) (su2 := 0) (x_cS C kmX10_nodeOver kk_10_189 (tX10_nodeOver_2 hok (by assumption) h7) rfl rfl (Nat.le_of_ble_eq_true rfl) ⟨Nat.le_of_ble_eq_true rfl, Nat.le_of_ble_eq_true rfl⟩ ⟨Nat.le_of_ble_eq_true rfl, Nat.le_of_ble_eq_true rfl⟩ dX10_nodeOver_22) rfl rfl rfl rfl ?_
      refine x_aload_n (pc2 := 26) C dX10_nodeOver_25 0 rfl rfl rfl ?_
      refine x_iload_n (pc2 := 27) C dX10_nodeOver_26 1 rfl rfl rfl ?_
      refine x_iconst (pc2 := 28) (v := 1) C dX10_nodeOver_27 rfl rfl ?_
      refine x_isub (pc2 := 29) C dX10_nodeOver_28 rfl ?_
      refine x_iconst (pc2 := 30) (v := 2) C dX10_nodeOver_29 rfl rfl ?_
      refine x_iload_n (pc2 := 31) C dX10_nodeOver_30 2 rfl rfl rfl ?_
      refine x_imul (pc2 := 32) C dX10_nodeOver_31 rfl ?_
      refine x_iconst (pc2 := 33) (v := 1) C dX10_nodeOver_32 rfl rfl ?_
      refine x_iadd (pc2 := 34) C dX10_nodeOver_33 rfl ?_
      refine x_ret (rest := [_]) (st2 := [_, _]) (pc2 := 37) (cu2 := 0) (su2 := 0) (x_cS C kmX10_nodeOver kk_10_189 (tX10_nodeOver_2 hok (by assumption) h7) rfl rfl (Nat.le_of_ble_eq_true rfl) ⟨Nat.le_of_ble_eq_true rfl, Nat.le_of_ble_eq_true rfl⟩ ⟨Nat.le_of_ble_eq_true rfl, Nat.le_of_ble_eq_true rfl⟩ dX10_nodeOver_34) rfl rfl rfl rfl ?_
      refine x_ret (rest := []) (st2 := [_]) (pc2 := 40) (cu2 := 0) (su2 := 0) (x_cS C kmX10_mix kk_10_265 (tX10_mix hok) rfl rfl (Nat.le_of_ble_eq_true rfl) ⟨Nat.le_of_ble_eq_true rfl, Nat.le_of_ble_eq_true rfl⟩ ⟨Nat.le_of_ble_eq_true rfl, Nat.le_of_ble_eq_true rfl⟩ dX10_nodeOver_37) rfl rfl rfl rfl ?_
      exact x_ireturn C dX10_nodeOver_40 rfl (Nat.le_of_ble_eq_true rfl) (Nat.le_of_ble_eq_true rfl) (by show Sum.inl (some (Value.int (fX10_nodeOver_l Ω i (2 + 1) r p))) = _; rw [nO_s, if_neg qc_1, if_pos qc_2]) rfl
    · refine x_aload_n (pc2 := 10) C dX10_nodeOver_9 0 rfl rfl rfl ?_
      refine x_iload_n (pc2 := 11) C dX10_nodeOver_10 2 rfl rfl rfl ?_
      refine x_ret (rest := []) (st2 := [_]) (pc2 := 14) (cu2 := 0) (su2 := 0) (x_cV C (by assumption) (Nat.le_of_ble_eq_true rfl) kmX6_leafOf rfl kk_10_269 (tX6_leafOf hok (by assumption)) rfl rfl (Nat.le_of_ble_eq_true rfl) ⟨Nat.le_of_ble_eq_true rfl, Nat.le_of_ble_eq_true rfl⟩ ⟨Nat.le_of_ble_eq_true rfl, Nat.le_of_ble_eq_true rfl⟩ dX10_nodeOver_11) rfl rfl rfl rfl ?_
      exact x_ireturn C dX10_nodeOver_14 rfl (Nat.le_of_ble_eq_true rfl) (Nat.le_of_ble_eq_true rfl) (by show Sum.inl (some (Value.int (fX10_nodeOver_l Ω i (2 + 1) r p))) = _; rw [nO_s, if_neg qc_1, if_neg qc_2]) rfl
set_option maxRecDepth 20000 in
theorem tX10_nodeOver_4 {G : XG} (hok : XK G) {i : Nat} {r p : Int32} {Ω : XO} (hd0 : dm G 6 i) (hr : r ≤ 0 ∨ ¬ r ≤ 4 ∨ r ≤ nI 4) : XM G yX10_nodeOver cX10_nodeOver 3 (some FieldType.int) (RM 6 0) [.ref (ad G 6 i), .int r, .int p] Ω (.inl (some (.int (fX10_nodeOver_l Ω i 4 r p)))) Ω := by
  refine x_start (lv := [(0, .ref (ad G 6 i)), (1, .int r), (2, .int p)]) (own := RX10) hok (by decide +kernel) rfl (Nat.le_of_ble_eq_true rfl) rfl (fun B C => ?_)
  refine x_iload_n (pc2 := 1) C dX10_nodeOver_0 1 rfl rfl rfl ?_
  refine x_if_le (tgt := 9) (pc2 := 4) C dX10_nodeOver_1 (by decide) rfl (fun qc_1 => ?_) (fun qc_1 => ?_)
  · refine x_aload_n (pc2 := 10) C dX10_nodeOver_9 0 rfl rfl rfl ?_
    refine x_iload_n (pc2 := 11) C dX10_nodeOver_10 2 rfl rfl rfl ?_
    refine x_ret (rest := []) (st2 := [_]) (pc2 := 14) (cu2 := 0) (su2 := 0) (x_cV C (by assumption) (Nat.le_of_ble_eq_true rfl) kmX6_leafOf rfl kk_10_269 (tX6_leafOf hok (by assumption)) rfl rfl (Nat.le_of_ble_eq_true rfl) ⟨Nat.le_of_ble_eq_true rfl, Nat.le_of_ble_eq_true rfl⟩ ⟨Nat.le_of_ble_eq_true rfl, Nat.le_of_ble_eq_true rfl⟩ dX10_nodeOver_11) rfl rfl rfl rfl ?_
    exact x_ireturn C dX10_nodeOver_14 rfl (Nat.le_of_ble_eq_true rfl) (Nat.le_of_ble_eq_true rfl) (by show Sum.inl (some (Value.int (fX10_nodeOver_l Ω i (3 + 1) r p))) = _; rw [nO_s, if_pos qc_1]) rfl
  · refine x_iload_n (pc2 := 5) C dX10_nodeOver_4 1 rfl rfl rfl ?_
    refine x_iconst (pc2 := 6) (v := 4) C dX10_nodeOver_5 rfl rfl ?_
    refine x_icmp_le (tgt := 15) (pc2 := 9) C dX10_nodeOver_6 (by decide) rfl (fun qc_2 => ?_) (fun qc_2 => ?_)
    · have h7 := ((nO_r (by decide) hr).resolve_left qc_1).resolve_left (fun h => h qc_2)
      refine x_aload_n (pc2 := 16) C dX10_nodeOver_15 0 rfl rfl rfl ?_
      refine x_iload_n (pc2 := 17) C dX10_nodeOver_16 1 rfl rfl rfl ?_
      refine x_iconst (pc2 := 18) (v := 1) C dX10_nodeOver_17 rfl rfl ?_
      refine x_isub (pc2 := 19) C dX10_nodeOver_18 rfl ?_
      refine x_iconst (pc2 := 20) (v := 2) C dX10_nodeOver_19 rfl rfl ?_
      refine x_iload_n (pc2 := 21) C dX10_nodeOver_20 2 rfl rfl rfl ?_
      refine x_imul (pc2 := 22) C dX10_nodeOver_21 rfl ?_
      refine x_ret (rest := []) (st2 := [_]) (pc2 := 25) (cu2 := 0) (su2 := 0) (x_cS C kmX10_nodeOver kk_10_189 (tX10_nodeOver_3 hok (by assumption) h7) rfl rfl (Nat.le_of_ble_eq_true rfl) ⟨Nat.le_of_ble_eq_true rfl, Nat.le_of_ble_eq_true rfl⟩ ⟨Nat.le_of_ble_eq_true rfl, Nat.le_of_ble_eq_true rfl⟩ dX10_nodeOver_22) rfl rfl rfl rfl ?_
      refine x_aload_n (pc2 := 26) C dX10_nodeOver_25 0 rfl rfl rfl ?_
      refine x_iload_n (pc2 := 27) C dX10_nodeOver_26 1 rfl rfl rfl ?_
      refine x_iconst (pc2 := 28) (v := 1) C dX10_nodeOver_27 rfl rfl ?_
      refine x_isub (pc2 := 29) C dX10_nodeOver_28 rfl ?_
      refine x_iconst (pc2 := 30) (v := 2) C dX10_nodeOver_29 rfl rfl ?_
      refine x_iload_n (pc2 := 31) C dX10_nodeOver_30 2 rfl rfl rfl ?_
      refine x_imul (pc2 := 32) C dX10_nodeOver_31 rfl ?_
      refine x_iconst (pc2 := 33) (v := 1) C dX10_nodeOver_32 rfl rfl ?_
      refine x_iadd (pc2 := 34) C dX10_nodeOver_33 rfl ?_
      refine x_ret (rest := [_]) (st2 := [_, _]) (pc2 := 37) (cu2 := 0) (su2 := 0) (x_cS C kmX10_nodeOver kk_10_189 (tX10_nodeOver_3 hok (by assumption) h7) rfl rfl (Nat.le_of_ble_eq_true rfl) ⟨Nat.le_of_ble_eq_true rfl, Nat.le_of_ble_eq_true rfl⟩ ⟨Nat.le_of_ble_eq_true rfl, Nat.le_of_ble_eq_true rfl⟩ dX10_nodeOver_34) rfl rfl rfl rfl ?_
      refine x_ret (rest := []) (st2 := [_]) (pc2 := 40) (cu2 := 0) (su2 := 0) (x_cS C kmX10_mix kk_10_265 (tX10_mix hok) rfl rfl (Nat.le_of_ble_eq_true rfl) ⟨Nat.le_of_ble_eq_true rfl, Nat.le_of_ble_eq_true rfl⟩ ⟨Nat.le_of_ble_eq_true rfl, Nat.le_of_ble_eq_true rfl⟩ dX10_nodeOver_37) rfl rfl rfl rfl ?_
      exact x_ireturn C dX10_nodeOver_40 rfl (Nat.le_of_ble_eq_true rfl) (Nat.le_of_ble_eq_true rfl) (by show Sum.inl (some (Value.int (fX10_nodeOver_l Ω i (3 + 1) r p))) = _; rw [nO_s, if_neg qc_1, if_pos qc_2]) rfl
    · refine x_aload_n (pc2 := 10) C dX10_nodeOver_9 0 rfl rfl rfl ?_
      refine x_iload_n (pc2 := 11) C dX10_nodeOver_10 2 rfl rfl rfl ?_
      refine x_ret (rest := []) (st2 := [_]) (pc2 := 14) (cu2 := 0) (su2 := 0) (x_cV C (by assumption) (Nat.le_of_ble_eq_true rfl) kmX6_leafOf rfl kk_10_269 (tX6_leafOf hok (by assumption)) rfl rfl (Nat.le_of_ble_eq_true rfl) ⟨Nat.le_of_ble_eq_true rfl, Nat.le_of_ble_eq_true rfl⟩ ⟨Nat.le_of_ble_eq_true rfl, Nat.le_of_ble_eq_true rfl⟩ dX10_nodeOver_11) rfl rfl rfl rfl ?_
      exact x_ireturn C dX10_nodeOver_14 rfl (Nat.le_of_ble_eq_true rfl) (Nat.le_of_ble_eq_true rfl) (by show Sum.inl (some (Value.int (fX10_nodeOver_l Ω i (3 + 1) r p))) = _; rw [nO_s, if_neg qc_1, if_neg qc_2]) rfl
theorem tX10_nodeOver {G : XG} (hok : XK G) {i : Nat} {r p : Int32} {Ω : XO} (hd0 : dm G 6 i) : XM G yX10_nodeOver cX10_nodeOver 3 (some FieldType.int) (RM 6 0) [.ref (ad G 6 i), .int r, .int p] Ω (.inl (some (.int (fX10_nodeOver Ω i r p)))) Ω :=
  tX10_nodeOver_4 hok hd0 (by rcases Decidable.em (r ≤ 4) with h | h; exact Or.inr (Or.inr h); exact Or.inr (Or.inl h))
def fX0_seal_l  (i : Nat) : Nat → Nat → XO → XO
  | 0, _, Ω => Ω
  | n + 1, k, Ω => (if (xI Ω 10 i 0) ≤ (nI k) then uI Ω 12 i 0 (fX10_nodeOver Ω i (4 : Int32) (0 : Int32)) else fX0_seal_l i n (k + 1) (uI Ω 11 i 0 ((xI Ω 11 i 0) ||| (fX0_bloomOf Ω (fX0_topicIn Ω i (nI k))))))
def fX0_seal (Ω : XO) (i : Nat) : XO := fX0_seal_l i ((xI Ω 10 i 0).toNatClampNeg + 1) 0 Ω
set_option maxRecDepth 20000 in
theorem lX0_seal {G : XG} (hok : XK G) {B : XB} {i : Nat} (hd0 : dm G 0 i)   : ∀ (n k : Nat) (Ω : XO), (xI Ω 10 i 0).toNatClampNeg + 1 ≤ k + n → k ≤ (xI Ω 10 i 0).toNatClampNeg → XC G B cX0_seal RX0 (RM 7 0) 2 none (.inl none) (fX0_seal_l i n k Ω) → XW G B 2 2 [(1, .int (nI k)), (0, .ref (ad G 0 (i)))] [] Ω 0 0 := by
  intro n
  induction n with
  | zero => intro k Ω h1 h2; exact absurd h1 (by omega)
  | succ n ih =>
    intro k Ω h1 hk C
    refine x_iload_n (pc2 := 3) C dX0_seal_2 0 rfl rfl rfl ?_
    refine x_aload_n (pc2 := 4) C dX0_seal_3 1 rfl rfl rfl ?_
    refine x_getI (pc2 := 7) (f := 10) C (by assumption) kf_0_71 dX0_seal_4 rfl rfl rfl ?_
    refine x_icmp_ge (tgt := 33) (pc2 := 10) C dX0_seal_7 (by decide) rfl (fun qc_1 => ?_) (fun qc_1 => ?_)
    · refine x_aload_n (pc2 := 34) C dX0_seal_33 1 rfl rfl rfl ?_
      refine x_aload_n (pc2 := 35) C dX0_seal_34 1 rfl rfl rfl ?_
      refine x_getR (f := 1) (k2 := 6) (pc2 := 38) C (by assumption) kf_0_12 dX0_seal_35 rfl rfl rfl (rti_i rfl) rfl (fun qd_2 => ?_)
      refine x_iconst (pc2 := 39) (v := 4) C dX0_seal_38 rfl rfl ?_
      refine x_iconst (pc2 := 40) (v := 0) C dX0_seal_39 rfl rfl ?_
      refine x_ret (rest := [_]) (st2 := [_, _]) (pc2 := 43) (cu2 := 0) (su2 := 0) (x_cSN C kmX10_nodeOver ke_0_96 (tX10_nodeOver hok (by assumption)) rfl rfl (Nat.le_of_ble_eq_true rfl) ⟨Nat.le_of_ble_eq_true rfl, Nat.le_of_ble_eq_true rfl⟩ ⟨Nat.le_of_ble_eq_true rfl, Nat.le_of_ble_eq_true rfl⟩ dX0_seal_40) rfl rfl rfl rfl ?_
      refine x_putI (pc2 := 46) (f := 12) C (by assumption) kf_0_100 dX0_seal_43 rfl rfl rfl rfl rfl ?_
      exact x_vreturn C dX0_seal_46 rfl (Nat.le_of_ble_eq_true rfl) (Nat.le_of_ble_eq_true rfl) rfl (by rw [fX0_seal_l, if_pos qc_1] <;> rfl)
    · refine x_aload_n (pc2 := 11) C dX0_seal_10 1 rfl rfl rfl ?_
      refine x_dup (pc2 := 12) C dX0_seal_11 rfl rfl ?_
      refine x_getI (pc2 := 15) (f := 11) C (by assumption) kf_0_86 dX0_seal_12 rfl rfl rfl ?_
      refine x_aload_n (pc2 := 16) C dX0_seal_15 1 rfl rfl rfl ?_
      refine x_iload_n (pc2 := 17) C dX0_seal_16 0 rfl rfl rfl ?_
      refine x_ret (rest := [_, _]) (st2 := [_, _, _]) (pc2 := 20) (cu2 := 0) (su2 := 0) (x_cV C (by assumption) (Nat.le_of_ble_eq_true rfl) kmX0_topicIn rfl kk_0_89 (tX0_topicIn hok (by assumption)) rfl rfl (Nat.le_of_ble_eq_true rfl) ⟨Nat.le_of_ble_eq_true rfl, Nat.le_of_ble_eq_true rfl⟩ ⟨Nat.le_of_ble_eq_true rfl, Nat.le_of_ble_eq_true rfl⟩ dX0_seal_17) rfl rfl rfl rfl ?_
      refine x_ret (rest := [_, _]) (st2 := [_, _, _]) (pc2 := 23) (cu2 := 0) (su2 := 0) (x_cS C kmX0_bloomOf kk_0_93 (tX0_bloomOf hok ) rfl rfl (Nat.le_of_ble_eq_true rfl) ⟨Nat.le_of_ble_eq_true rfl, Nat.le_of_ble_eq_true rfl⟩ ⟨Nat.le_of_ble_eq_true rfl, Nat.le_of_ble_eq_true rfl⟩ dX0_seal_20) rfl rfl rfl rfl ?_
      refine x_ior (pc2 := 24) C dX0_seal_23 rfl ?_
      refine x_putI (pc2 := 27) (f := 11) C (by assumption) kf_0_86 dX0_seal_24 rfl rfl rfl rfl rfl ?_
      refine x_iinc (pc2 := 30) (v := nI (k + 1)) (lv2 := [(1, _), (0, _)]) C dX0_seal_27 0 rfl (nI_1 _) (by decide) rfl rfl ?_
      refine x_goto (tgt := 2) C dX0_seal_30 (by decide) ?_
      exact x_sub (lv2 := [(1, _), (0, _)]) C [0, 1] rfl (ih (k + 1) _ (by show (xI Ω 10 i 0).toNatClampNeg + 1 ≤ k + 1 + n; have h9 := x_lt hk (by assumption); omega) (by show k + 1 ≤ (xI Ω 10 i 0).toNatClampNeg; have h9 := x_lt hk (by assumption); omega) (XC_to C rfl (by rw [fX0_seal_l, if_neg qc_1] <;> rfl)))
set_option maxRecDepth 20000 in
theorem tX0_seal {G : XG} (hok : XK G) {i : Nat} {Ω : XO} (hd0 : dm G 0 i)  : XM G yX0_seal cX0_seal 2 none (RM 7 0) [.ref (ad G 0 i)] Ω (.inl none) (fX0_seal Ω i) := by
  refine x_start (lv := [(0, .ref (ad G 0 i))]) (own := RX0) hok (by decide +kernel) rfl (Nat.le_of_ble_eq_true rfl) rfl (fun B C => ?_)
  refine x_iconst (pc2 := 1) (v := 0) C dX0_seal_0 rfl rfl ?_
  refine x_istore_n (pc2 := 2) (lv2 := [(1, _), (0, _)]) C dX0_seal_1 rfl (by decide) rfl rfl ?_
  exact x_sub (lv2 := [(1, _), (0, _)]) C [0, 1] rfl (lX0_seal hok (by assumption) ((xI Ω 10 i 0).toNatClampNeg + 1) 0 _ (by omega) (by omega) (XC_to C rfl (by rw [fX0_seal] <;> rfl)))
theorem R_fX0_seal_l (i : Nat) : ∀ (n k : Nat) (Ω : XO), xR (fX0_seal_l i n k Ω) = xR Ω := by
  intro n
  induction n with
  | zero => intros; rfl
  | succ n ih =>
    intros
    rw [fX0_seal_l]
    (repeat' split) <;> first | rfl | (rw [ih]; done) | (rw [ih]; rfl) | (rw [ih]; funext a b9; simp only [R_uI, R_uL, R_cI, R_sPut, R_fX0_imitate, R_fX0_enter, R_fX0_addEvent, R_fX3_take, R_fX3_push, R_fX3_reach, R_fX5_append, R_fX6_copyFrom, R_fX6_gain, R_fX6_move, R_fX6_raiseNonce, R_fX7_order, R_fX7_bid, R_fX7_nameLock, R_fX9_become, R_fX0_follow, R_fX3_save, R_fX1_dropRivals_l, R_fX1_dropRivals, R_fX1_throwOutFor_l, R_fX1_throwOutFor, R_fX1_dropLower_l, R_fX1_dropLower, R_fX3_open_l, R_fX3_open, R_fX6_dropProgram_l, R_fX6_dropProgram, R_fX8_give_l, R_fX8_give, R_fX1_admit_l, R_fX1_admit, R_fX2_moveFinal_l, R_fX2_moveFinal, R_fX6_becomeFirst_l, R_fX6_becomeFirst, R_fX2_justify]) | (funext a b9; simp only [R_uI, R_uL, R_cI, R_sPut, R_fX0_imitate, R_fX0_enter, R_fX0_addEvent, R_fX3_take, R_fX3_push, R_fX3_reach, R_fX5_append, R_fX6_copyFrom, R_fX6_gain, R_fX6_move, R_fX6_raiseNonce, R_fX7_order, R_fX7_bid, R_fX7_nameLock, R_fX9_become, R_fX0_follow, R_fX3_save, R_fX1_dropRivals_l, R_fX1_dropRivals, R_fX1_throwOutFor_l, R_fX1_throwOutFor, R_fX1_dropLower_l, R_fX1_dropLower, R_fX3_open_l, R_fX3_open, R_fX6_dropProgram_l, R_fX6_dropProgram, R_fX8_give_l, R_fX8_give, R_fX1_admit_l, R_fX1_admit, R_fX2_moveFinal_l, R_fX2_moveFinal, R_fX6_becomeFirst_l, R_fX6_becomeFirst, R_fX2_justify])
theorem R_fX0_seal (Ω : XO) (i : Nat) : xR (fX0_seal Ω i) = xR Ω := by
  unfold fX0_seal
  (repeat' split) <;> first | rfl | (funext a b9; simp only [R_uI, R_uL, R_cI, R_sPut, R_fX0_imitate, R_fX0_enter, R_fX0_addEvent, R_fX3_take, R_fX3_push, R_fX3_reach, R_fX5_append, R_fX6_copyFrom, R_fX6_gain, R_fX6_move, R_fX6_raiseNonce, R_fX7_order, R_fX7_bid, R_fX7_nameLock, R_fX9_become, R_fX0_follow, R_fX3_save, R_fX1_dropRivals_l, R_fX1_dropRivals, R_fX1_throwOutFor_l, R_fX1_throwOutFor, R_fX1_dropLower_l, R_fX1_dropLower, R_fX3_open_l, R_fX3_open, R_fX6_dropProgram_l, R_fX6_dropProgram, R_fX8_give_l, R_fX8_give, R_fX1_admit_l, R_fX1_admit, R_fX2_moveFinal_l, R_fX2_moveFinal, R_fX6_becomeFirst_l, R_fX6_becomeFirst, R_fX2_justify, R_fX0_seal_l])
def fX0_becomeFirst (Ω : XO) (i : Nat) : XO := fX0_seal (fX6_becomeFirst (uI (uI Ω 16 i 0 (1 : Int32)) 14 i 0 (1 : Int32)) i) i
set_option maxRecDepth 20000 in
theorem tX0_becomeFirst {G : XG} (hok : XK G) {i : Nat} {Ω : XO} (hd0 : dm G 0 i)   : XM G yX0_becomeFirst cX0_becomeFirst 1 none (RM 8 0) [.ref (ad G 0 i)] Ω (.inl none) (fX0_becomeFirst Ω i) := by
  refine x_start (lv := [(0, .ref (ad G 0 i))]) (own := RX0) hok (by decide +kernel) rfl (Nat.le_of_ble_eq_true rfl) rfl (fun B C => ?_)
  refine x_aload_n (pc2 := 1) C dX0_becomeFirst_0 0 rfl rfl rfl ?_
  refine x_iconst (pc2 := 2) (v := 1) C dX0_becomeFirst_1 rfl rfl ?_
  refine x_putI (pc2 := 5) (f := 16) C (by assumption) kf_0_32 dX0_becomeFirst_2 rfl rfl rfl rfl rfl ?_
  refine x_aload_n (pc2 := 6) C dX0_becomeFirst_5 0 rfl rfl rfl ?_
  refine x_iconst (pc2 := 7) (v := 1) C dX0_becomeFirst_6 rfl rfl ?_
  refine x_putZ (pc2 := 10) (f := 14) C (by assumption) kf_0_35 dX0_becomeFirst_7 rfl rfl rfl (by first | exact Or.inl rfl | exact Or.inr rfl) rfl rfl ?_
  refine x_aload_n (pc2 := 11) C dX0_becomeFirst_10 0 rfl rfl rfl ?_
  refine x_getR (f := 1) (k2 := 6) (pc2 := 14) C (by assumption) kf_0_12 dX0_becomeFirst_11 rfl rfl rfl (rti_i rfl) rfl (fun qd_1 => ?_)
  refine x_ret (rest := []) (st2 := []) (pc2 := 17) (cu2 := 0) (su2 := 0) (x_cV C (by assumption) (Nat.le_of_ble_eq_true rfl) kmX6_becomeFirst rfl kk_0_39 (tX6_becomeFirst hok (by assumption)) rfl rfl (Nat.le_of_ble_eq_true rfl) ⟨Nat.le_of_ble_eq_true rfl, Nat.le_of_ble_eq_true rfl⟩ ⟨Nat.le_of_ble_eq_true rfl, Nat.le_of_ble_eq_true rfl⟩ dX0_becomeFirst_14) rfl rfl rfl rfl ?_
  refine x_aload_n (pc2 := 18) C dX0_becomeFirst_17 0 rfl rfl rfl ?_
  refine x_ret (rest := []) (st2 := []) (pc2 := 21) (cu2 := 0) (su2 := 0) (x_cV C (by assumption) (Nat.le_of_ble_eq_true rfl) kmX0_seal rfl kk_0_42 (tX0_seal hok (by assumption)) rfl rfl (Nat.le_of_ble_eq_true rfl) ⟨Nat.le_of_ble_eq_true rfl, Nat.le_of_ble_eq_true rfl⟩ ⟨Nat.le_of_ble_eq_true rfl, Nat.le_of_ble_eq_true rfl⟩ dX0_becomeFirst_18) rfl rfl rfl rfl ?_
  exact x_vreturn C dX0_becomeFirst_21 rfl (Nat.le_of_ble_eq_true rfl) (Nat.le_of_ble_eq_true rfl) rfl (by rw [fX0_becomeFirst] <;> rfl)
theorem R_fX0_becomeFirst (Ω : XO) (i : Nat) : xR (fX0_becomeFirst Ω i) = xR Ω := by
  unfold fX0_becomeFirst
  (repeat' split) <;> first | rfl | (funext a b9; simp only [R_uI, R_uL, R_cI, R_sPut, R_fX0_imitate, R_fX0_enter, R_fX0_addEvent, R_fX3_take, R_fX3_push, R_fX3_reach, R_fX5_append, R_fX6_copyFrom, R_fX6_gain, R_fX6_move, R_fX6_raiseNonce, R_fX7_order, R_fX7_bid, R_fX7_nameLock, R_fX9_become, R_fX0_follow, R_fX3_save, R_fX1_dropRivals_l, R_fX1_dropRivals, R_fX1_throwOutFor_l, R_fX1_throwOutFor, R_fX1_dropLower_l, R_fX1_dropLower, R_fX3_open_l, R_fX3_open, R_fX6_dropProgram_l, R_fX6_dropProgram, R_fX8_give_l, R_fX8_give, R_fX1_admit_l, R_fX1_admit, R_fX2_moveFinal_l, R_fX2_moveFinal, R_fX6_becomeFirst_l, R_fX6_becomeFirst, R_fX2_justify, R_fX0_seal_l, R_fX0_seal])
def fX10_leaf (Ω : XO) (i : Nat) (x1 : Int32) (x2 : Int32) (x3 : Int32) : (Option Value ⊕ String) × XO := (if eX10_demandState_ Ω i x1 x2 x3 = none then (.inl (some (.int (fX10_nodeOver Ω (rX10_demandState_ Ω i x1 x2 x3) (0 : Int32) x3))), Ω) else (.inr ((eX10_demandState_ Ω i x1 x2 x3).getD ""), Ω))
set_option maxRecDepth 20000 in
theorem tX10_leaf {G : XG} (hok : XK G) {i : Nat} {x1 : Int32} {x2 : Int32} {x3 : Int32} {Ω : XO} (hd0 : dm G 10 i)  : XM G yX10_leaf cX10_leaf 4 ((some FieldType.int)) (RM 9 4) [.ref (ad G 10 i), .int x1, .int x2, .int x3] Ω (fX10_leaf Ω i x1 x2 x3).1 (fX10_leaf Ω i x1 x2 x3).2 := by
  refine x_start (lv := [(0, .ref (ad G 10 i)), (1, .int x1), (2, .int x2), (3, .int x3)]) (own := RX10) hok (by decide +kernel) rfl (Nat.le_of_ble_eq_true rfl) rfl (fun B C => ?_)
  refine x_aload_n (pc2 := 1) C dX10_leaf_0 0 rfl rfl rfl ?_
  refine x_iload_n (pc2 := 2) C dX10_leaf_1 1 rfl rfl rfl ?_
  refine x_iload_n (pc2 := 3) C dX10_leaf_2 2 rfl rfl rfl ?_
  refine x_iload_n (pc2 := 4) C dX10_leaf_3 3 rfl rfl rfl ?_
  rcases Decidable.em (eX10_demandState_ Ω i x1 x2 x3 = none) with qc_1 | qc_1
  · refine x_ret (rest := []) (st2 := [_]) (pc2 := 7) (cu2 := 4) (su2 := 24) (x_cV C (by assumption) (Nat.le_of_ble_eq_true rfl) kmX10_demandState_ rfl kk_10_162 (XM_n qc_1 (tX10_demandState_ hok (by assumption))) rfl rfl (Nat.le_of_ble_eq_true rfl) ⟨Nat.le_of_ble_eq_true rfl, Nat.le_of_ble_eq_true rfl⟩ ⟨Nat.le_of_ble_eq_true rfl, Nat.le_of_ble_eq_true rfl⟩ dX10_leaf_4) rfl rfl rfl rfl ?_
    have qd_2 := D_demandState_ hok (Ω := Ω) (by assumption) qc_1
    refine x_iconst (pc2 := 8) (v := 0) C dX10_leaf_7 rfl rfl ?_
    refine x_iload_n (pc2 := 9) C dX10_leaf_8 3 rfl rfl rfl ?_
    refine x_ret (rest := []) (st2 := [_]) (pc2 := 12) (cu2 := 4) (su2 := 24) (x_cS C kmX10_nodeOver kk_10_189 (tX10_nodeOver hok (by assumption)) rfl rfl (Nat.le_of_ble_eq_true rfl) ⟨Nat.le_of_ble_eq_true rfl, Nat.le_of_ble_eq_true rfl⟩ ⟨Nat.le_of_ble_eq_true rfl, Nat.le_of_ble_eq_true rfl⟩ dX10_leaf_9) rfl rfl rfl rfl ?_
    exact x_ireturn C dX10_leaf_12 rfl (Nat.le_of_ble_eq_true rfl) (Nat.le_of_ble_eq_true rfl) (by rw [fX10_leaf, if_pos qc_1] <;> rfl) (by rw [fX10_leaf, if_pos qc_1] <;> rfl)
  · exact x_thr C (rest := []) (x_cV C (by assumption) (Nat.le_of_ble_eq_true rfl) kmX10_demandState_ rfl kk_10_162 (XM_t qc_1 (tX10_demandState_ hok (by assumption))) rfl rfl (Nat.le_of_ble_eq_true rfl) ⟨Nat.le_of_ble_eq_true rfl, Nat.le_of_ble_eq_true rfl⟩ ⟨Nat.le_of_ble_eq_true rfl, Nat.le_of_ble_eq_true rfl⟩ dX10_leaf_4) (Nat.le_of_ble_eq_true rfl) (Nat.le_of_ble_eq_true rfl) (by rw [fX10_leaf, if_neg qc_1] <;> rfl) (by rw [fX10_leaf, if_neg qc_1] <;> rfl)
def fX10_proof (Ω : XO) (i : Nat) (x1 : Int32) (x2 : Int32) (x3 : Int32) (x4 : Int32) : (Option Value ⊕ String) × XO := (if eX10_demandIndex Ω x4 (4 : Int32) = none then (if eX10_demandState_ Ω i x1 x2 x3 = none then (.inl (some (.int (fX10_nodeOver Ω (rX10_demandState_ Ω i x1 x2 x3) x4 ((x3 >>> (x4 &&& 31)) ^^^ (1 : Int32))))), Ω) else (.inr ((eX10_demandState_ Ω i x1 x2 x3).getD ""), Ω)) else (.inr ((eX10_demandIndex Ω x4 (4 : Int32)).getD ""), Ω))
set_option maxRecDepth 20000 in
theorem tX10_proof {G : XG} (hok : XK G) {i : Nat} {x1 : Int32} {x2 : Int32} {x3 : Int32} {x4 : Int32} {Ω : XO} (hd0 : dm G 10 i)  : XM G yX10_proof cX10_proof 5 ((some FieldType.int)) (RM 9 5) [.ref (ad G 10 i), .int x1, .int x2, .int x3, .int x4] Ω (fX10_proof Ω i x1 x2 x3 x4).1 (fX10_proof Ω i x1 x2 x3 x4).2 := by
  refine x_start (lv := [(0, .ref (ad G 10 i)), (1, .int x1), (2, .int x2), (3, .int x3), (4, .int x4)]) (own := RX10) hok (by decide +kernel) rfl (Nat.le_of_ble_eq_true rfl) rfl (fun B C => ?_)
  refine x_iload (pc2 := 2) C dX10_proof_0 4 rfl rfl ?_
  refine x_iconst (pc2 := 3) (v := 4) C dX10_proof_2 rfl rfl ?_
  rcases Decidable.em (eX10_demandIndex Ω x4 (4 : Int32) = none) with qc_1 | qc_1
  · refine x_ret (rest := []) (st2 := []) (pc2 := 6) (cu2 := 1) (su2 := 6) (x_cS C kmX10_demandIndex kk_10_32 (XM_n qc_1 (tX10_demandIndex hok )) rfl rfl (Nat.le_of_ble_eq_true rfl) ⟨Nat.le_of_ble_eq_true rfl, Nat.le_of_ble_eq_true rfl⟩ ⟨Nat.le_of_ble_eq_true rfl, Nat.le_of_ble_eq_true rfl⟩ dX10_proof_3) rfl rfl rfl rfl ?_
    refine x_aload_n (pc2 := 7) C dX10_proof_6 0 rfl rfl rfl ?_
    refine x_iload_n (pc2 := 8) C dX10_proof_7 1 rfl rfl rfl ?_
    refine x_iload_n (pc2 := 9) C dX10_proof_8 2 rfl rfl rfl ?_
    refine x_iload_n (pc2 := 10) C dX10_proof_9 3 rfl rfl rfl ?_
    rcases Decidable.em (eX10_demandState_ Ω i x1 x2 x3 = none) with qc_2 | qc_2
    · refine x_ret (rest := []) (st2 := [_]) (pc2 := 13) (cu2 := 5) (su2 := 30) (x_cV C (by assumption) (Nat.le_of_ble_eq_true rfl) kmX10_demandState_ rfl kk_10_162 (XM_n qc_2 (tX10_demandState_ hok (by assumption))) rfl rfl (Nat.le_of_ble_eq_true rfl) ⟨Nat.le_of_ble_eq_true rfl, Nat.le_of_ble_eq_true rfl⟩ ⟨Nat.le_of_ble_eq_true rfl, Nat.le_of_ble_eq_true rfl⟩ dX10_proof_10) rfl rfl rfl rfl ?_
      have qd_3 := D_demandState_ hok (Ω := Ω) (by assumption) qc_2
      refine x_iload (pc2 := 15) C dX10_proof_13 4 rfl rfl ?_
      refine x_iload_n (pc2 := 16) C dX10_proof_15 3 rfl rfl rfl ?_
      refine x_iload (pc2 := 18) C dX10_proof_16 4 rfl rfl ?_
      refine x_ishr (pc2 := 19) C dX10_proof_18 rfl ?_
      refine x_iconst (pc2 := 20) (v := 1) C dX10_proof_19 rfl rfl ?_
      refine x_ixor (pc2 := 21) C dX10_proof_20 rfl ?_
      refine x_ret (rest := []) (st2 := [_]) (pc2 := 24) (cu2 := 5) (su2 := 30) (x_cS C kmX10_nodeOver kk_10_189 (tX10_nodeOver hok (by assumption)) rfl rfl (Nat.le_of_ble_eq_true rfl) ⟨Nat.le_of_ble_eq_true rfl, Nat.le_of_ble_eq_true rfl⟩ ⟨Nat.le_of_ble_eq_true rfl, Nat.le_of_ble_eq_true rfl⟩ dX10_proof_21) rfl rfl rfl rfl ?_
      exact x_ireturn C dX10_proof_24 rfl (Nat.le_of_ble_eq_true rfl) (Nat.le_of_ble_eq_true rfl) (by rw [fX10_proof, if_pos qc_1, if_pos qc_2] <;> rfl) (by rw [fX10_proof, if_pos qc_1, if_pos qc_2] <;> rfl)
    · exact x_thr C (rest := []) (x_cV C (by assumption) (Nat.le_of_ble_eq_true rfl) kmX10_demandState_ rfl kk_10_162 (XM_t qc_2 (tX10_demandState_ hok (by assumption))) rfl rfl (Nat.le_of_ble_eq_true rfl) ⟨Nat.le_of_ble_eq_true rfl, Nat.le_of_ble_eq_true rfl⟩ ⟨Nat.le_of_ble_eq_true rfl, Nat.le_of_ble_eq_true rfl⟩ dX10_proof_10) (Nat.le_of_ble_eq_true rfl) (Nat.le_of_ble_eq_true rfl) (by rw [fX10_proof, if_pos qc_1, if_neg qc_2] <;> rfl) (by rw [fX10_proof, if_pos qc_1, if_neg qc_2] <;> rfl)
  · exact x_thr C (rest := []) (x_cS C kmX10_demandIndex kk_10_32 (XM_t qc_1 (tX10_demandIndex hok )) rfl rfl (Nat.le_of_ble_eq_true rfl) ⟨Nat.le_of_ble_eq_true rfl, Nat.le_of_ble_eq_true rfl⟩ ⟨Nat.le_of_ble_eq_true rfl, Nat.le_of_ble_eq_true rfl⟩ dX10_proof_3) (Nat.le_of_ble_eq_true rfl) (Nat.le_of_ble_eq_true rfl) (by rw [fX10_proof, if_neg qc_1] <;> rfl) (by rw [fX10_proof, if_neg qc_1] <;> rfl)
