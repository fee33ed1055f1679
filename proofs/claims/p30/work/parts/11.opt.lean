abbrev inB (j : Int32) (n : Nat) : Prop := 0 ≤ j.toInt ∧ j.toInt < n
theorem inB_in {j : Int32} {n : Nat} (h : inB j n) : vp_in j n := vp_in_iff.mpr h
def fX2_justifyOne_l26 (y5 : Nat) (y4 : Int32) (y3 : Int32) (y2 : Nat) (y0 : Nat) (y1 : Nat) : Nat → Int32 → XO → Option ((Int32 × XO) ⊕ (Int32 × XO))
  | 0, _, _ => none
  | n + 1, y6, Ω => (if (fX8_countingVotes Ω y5) ≤ y6 then (some (.inr (y6, Ω))) else (if ((fX2_justify Ω y0 y1 (fX8_voteAt Ω y5 y6)).1) = 0 then fX2_justifyOne_l26 y5 y4 y3 y2 y0 y1 n (y6 + 1) ((fX2_justify Ω y0 y1 (fX8_voteAt Ω y5 y6)).2) else (some (.inl ((1 : Int32), (fX2_justify Ω y0 y1 (fX8_voteAt Ω y5 y6)).2)))))
set_option maxRecDepth 20000 in
theorem lX2_justifyOne_l26 {G : XG} (hok : XK G) {B : XB} {y5 : Nat} {y4 : Int32} {y3 : Int32} {y2 : Nat} {y0 : Nat} {y1 : Nat}  (hf5 : dm G 8 y5) (hf2 : dm G 2004 y2) (hf0 : dm G 2 y0) (hf1 : dm G 2002 y1)   {T : Option Value ⊕ String} {Ω9 : XO} (C : XC G B cX2_justifyOne RX2 (RM 5 0) 7 ((some FieldType.boolean)) T Ω9) : ∀ (n : Nat) (y6 : Int32) (Ω : XO) {r : ((Int32 × XO) ⊕ (Int32 × XO))}, fX2_justifyOne_l26 y5 y4 y3 y2 y0 y1 n y6 Ω = some r → (∀ v, r = .inl v → T = (.inl (some (.int (v.1)))) ∧ Ω9 = v.2) → (∀ q, r = .inr q → (XW G B 7 59 [(4, .int (y4)), (3, .int (y3)), (2, .ref (ad G 2004 (y2))), (0, .ref (ad G 2 (y0))), (1, .ref (ad G 2002 (y1)))] [] q.2 0 0)) → XW G B 7 26 [(6, .int (y6)), (5, .ref (ad G 8 (y5))), (4, .int (y4)), (3, .int (y3)), (2, .ref (ad G 2004 (y2))), (0, .ref (ad G 2 (y0))), (1, .ref (ad G 2002 (y1)))] [] Ω 0 0 := by
  intro n
  induction n with
  | zero => intro y6 Ω r hf; exact absurd hf (by rw [fX2_justifyOne_l26]; exact nofun)
  | succ n ih =>
    intro y6 Ω r hf hk hk2
    refine x_iload (pc2 := 28) C dX2_justifyOne_26 0 rfl rfl ?_
    refine x_aload (pc2 := 30) C dX2_justifyOne_28 1 rfl rfl ?_
    refine x_ret (rest := [_]) (st2 := [_, _]) (pc2 := 33) (cu2 := 0) (su2 := 0) (x_cV C (by assumption) (Nat.le_of_ble_eq_true rfl) kmX8_countingVotes rfl kk_2_26 (tX8_countingVotes hok (by assumption)) rfl rfl (Nat.le_of_ble_eq_true rfl) ⟨Nat.le_of_ble_eq_true rfl, Nat.le_of_ble_eq_true rfl⟩ ⟨Nat.le_of_ble_eq_true rfl, Nat.le_of_ble_eq_true rfl⟩ dX2_justifyOne_30) rfl rfl rfl rfl ?_
    refine x_icmp_ge (tgt := 59) (pc2 := 36) C dX2_justifyOne_33 (by decide) rfl (fun qc_1 => ?_) (fun qc_1 => ?_)
    · rw [fX2_justifyOne_l26, if_pos qc_1] at hf
      exact x_sub (lv2 := [(4, _), (3, _), (2, _), (0, _), (1, _)]) C [2, 3, 4, 5, 6] rfl (hk2 _ (Option.some.inj hf).symm)
    · refine x_aload_n (pc2 := 37) C dX2_justifyOne_36 5 rfl rfl rfl ?_
      refine x_aload_n (pc2 := 38) C dX2_justifyOne_37 6 rfl rfl rfl ?_
      refine x_aload (pc2 := 40) C dX2_justifyOne_38 1 rfl rfl ?_
      refine x_iload (pc2 := 42) C dX2_justifyOne_40 0 rfl rfl ?_
      refine x_ret (rest := [_, _]) (st2 := [_, _, _]) (pc2 := 45) (cu2 := 0) (su2 := 0) (x_cV C (by assumption) (Nat.le_of_ble_eq_true rfl) kmX8_voteAt rfl kk_2_30 (tX8_voteAt hok (by assumption)) rfl rfl (Nat.le_of_ble_eq_true rfl) ⟨Nat.le_of_ble_eq_true rfl, Nat.le_of_ble_eq_true rfl⟩ ⟨Nat.le_of_ble_eq_true rfl, Nat.le_of_ble_eq_true rfl⟩ dX2_justifyOne_42) rfl rfl rfl rfl ?_
      have qd_2 := D_voteAt hok (Ω := Ω) (i := y5) (by assumption) (x1 := y6)
      refine x_ret (rest := []) (st2 := [_]) (pc2 := 48) (cu2 := 0) (su2 := 0) (x_cV C (by assumption) (Nat.le_of_ble_eq_true rfl) kmX2_justify rfl kk_2_34 (tX2_justify hok (by assumption) (by assumption) (by assumption)) rfl rfl (Nat.le_of_ble_eq_true rfl) ⟨Nat.le_of_ble_eq_true rfl, Nat.le_of_ble_eq_true rfl⟩ ⟨Nat.le_of_ble_eq_true rfl, Nat.le_of_ble_eq_true rfl⟩ dX2_justifyOne_45) rfl rfl rfl rfl ?_
      refine x_if_eq (tgt := 53) (pc2 := 51) C dX2_justifyOne_48 (by decide) rfl (fun qc_3 => ?_) (fun qc_3 => ?_)
      · refine x_iinc (pc2 := 56) (v := y6 + 1) (lv2 := [(6, _), (5, _), (4, _), (3, _), (2, _), (0, _), (1, _)]) C dX2_justifyOne_53 0 rfl rfl (by decide) rfl rfl ?_
        refine x_goto (tgt := 26) C dX2_justifyOne_56 (by decide) ?_
        exact x_sub (lv2 := [(6, _), (5, _), (4, _), (3, _), (2, _), (0, _), (1, _)]) C [0, 1, 2, 3, 4, 5, 6] rfl (ih _ _ (by rw [fX2_justifyOne_l26, if_neg qc_1, if_pos qc_3] at hf; exact hf) hk hk2)
      · refine x_iconst (pc2 := 52) (v := 1) C dX2_justifyOne_51 rfl rfl ?_
        rw [fX2_justifyOne_l26, if_neg qc_1, if_neg qc_3] at hf
        obtain ⟨hT9, hW9⟩ := hk _ (Option.some.inj hf).symm
        exact x_zreturn C dX2_justifyOne_52 rfl (by first | exact Or.inl rfl | exact Or.inr rfl) (Nat.le_of_ble_eq_true rfl) (Nat.le_of_ble_eq_true rfl) hT9 hW9
def fX2_justifyOne_l11 (y3 : Int32) (y2 : Nat) (y0 : Nat) (y1 : Nat) : Nat → Int32 → XO → Option ((Int32 × XO) ⊕ (Int32 × XO))
  | 0, _, _ => none
  | n + 1, y4, Ω => (if y3 ≤ y4 then (some (.inr (y4, Ω))) else (if inB y4 4 then (fX2_justifyOne_l26 (4 * y2 + y4.toNatClampNeg) y4 y3 y2 y0 y1 21 (0 : Int32) Ω).bind (Sum.elim (fun v => some (.inl v)) (fun q_4 => fX2_justifyOne_l11 y3 y2 y0 y1 n (y4 + 1) q_4.2)) else none))
set_option maxRecDepth 20000 in
theorem lX2_justifyOne_l11 {G : XG} (hok : XK G) {B : XB} {y3 : Int32} {y2 : Nat} {y0 : Nat} {y1 : Nat}  (hf2 : dm G 2004 y2) (hf0 : dm G 2 y0) (hf1 : dm G 2002 y1)   {T : Option Value ⊕ String} {Ω9 : XO} (C : XC G B cX2_justifyOne RX2 (RM 5 0) 7 ((some FieldType.boolean)) T Ω9) : ∀ (n : Nat) (y4 : Int32) (Ω : XO) {r : ((Int32 × XO) ⊕ (Int32 × XO))}, fX2_justifyOne_l11 y3 y2 y0 y1 n y4 Ω = some r → (∀ v, r = .inl v → T = (.inl (some (.int (v.1)))) ∧ Ω9 = v.2) → (∀ q, r = .inr q → (XW G B 7 65 [] [] q.2 0 0)) → XW G B 7 11 [(4, .int (y4)), (3, .int (y3)), (2, .ref (ad G 2004 (y2))), (0, .ref (ad G 2 (y0))), (1, .ref (ad G 2002 (y1)))] [] Ω 0 0 := by
  intro n
  induction n with
  | zero => intro y4 Ω r hf; exact absurd hf (by rw [fX2_justifyOne_l11]; exact nofun)
  | succ n ih =>
    intro y4 Ω r hf hk hk2
    refine x_iload (pc2 := 13) C dX2_justifyOne_11 0 rfl rfl ?_
    refine x_iload_n (pc2 := 14) C dX2_justifyOne_13 1 rfl rfl rfl ?_
    refine x_icmp_ge (tgt := 65) (pc2 := 17) C dX2_justifyOne_14 (by decide) rfl (fun qc_1 => ?_) (fun qc_1 => ?_)
    · rw [fX2_justifyOne_l11, if_pos qc_1] at hf
      exact x_sub (lv2 := []) C [] rfl (hk2 _ (Option.some.inj hf).symm)
    · refine x_aload_n (pc2 := 18) C dX2_justifyOne_17 2 rfl rfl rfl ?_
      refine x_iload (pc2 := 20) C dX2_justifyOne_18 0 rfl rfl ?_
      rcases (Decidable.em (inB y4 4)).symm with qg_2 | qg_2
      · exact absurd hf (by rw [fX2_justifyOne_l11, if_neg qc_1, if_neg qg_2]; exact nofun)
      refine x_aald (k2 := 8) (pc2 := 21) C (by assumption) dX2_justifyOne_20 rfl rfl (inB_in qg_2) rfl (eli_2004 _ _) rfl (fun qd_3 => ?_)
      refine x_astore (pc2 := 23) (lv2 := [(5, _), (4, _), (3, _), (2, _), (0, _), (1, _)]) C dX2_justifyOne_21 (by decide) rfl rfl ?_
      refine x_iconst (pc2 := 24) (v := 0) C dX2_justifyOne_23 rfl rfl ?_
      refine x_istore (pc2 := 26) (lv2 := [(6, _), (5, _), (4, _), (3, _), (2, _), (0, _), (1, _)]) C dX2_justifyOne_24 (by decide) rfl rfl ?_
      rcases hq_4 : fX2_justifyOne_l26 (4 * y2 + y4.toNatClampNeg) y4 y3 y2 y0 y1 21 (0 : Int32) Ω with _ | (v_4 | q_4)
      · exact absurd hf (by rw [fX2_justifyOne_l11, if_neg qc_1, if_pos qg_2, hq_4, Option.bind_none]; exact nofun)
      · exact x_sub (lv2 := [(6, _), (5, _), (4, _), (3, _), (2, _), (0, _), (1, _)]) C [0, 1, 2, 3, 4, 5, 6] rfl (lX2_justifyOne_l26 hok (by assumption) (by assumption) (by assumption) (by assumption) C _ _ _ hq_4 (fun v9 h9 => by cases h9; exact hk _ (by rw [fX2_justifyOne_l11, if_neg qc_1, if_pos qg_2, hq_4, Option.bind_some, Sum.elim_inl] at hf; exact (Option.some.inj hf).symm)) (fun _ h9 => nomatch h9))
      refine x_sub (lv2 := [(6, _), (5, _), (4, _), (3, _), (2, _), (0, _), (1, _)]) C [0, 1, 2, 3, 4, 5, 6] rfl (lX2_justifyOne_l26 hok (by assumption) (by assumption) (by assumption) (by assumption) C _ _ _ hq_4 (fun _ h9 => nomatch h9) (fun q9 h9 => ?_))
      cases h9
      refine x_iinc (pc2 := 62) (v := y4 + 1) (lv2 := [(4, _), (3, _), (2, _), (0, _), (1, _)]) C dX2_justifyOne_59 0 rfl rfl (by decide) rfl rfl ?_
      refine x_goto (tgt := 11) C dX2_justifyOne_62 (by decide) ?_
      exact x_sub (lv2 := [(4, _), (3, _), (2, _), (0, _), (1, _)]) C [0, 1, 2, 3, 4] rfl (ih _ _ (by rw [fX2_justifyOne_l11, if_neg qc_1, if_pos qg_2, hq_4, Option.bind_some, Sum.elim_inr] at hf; exact hf) hk hk2)
def fX2_justifyOne (Ω : XO) (i : Nat) (i1 : Nat) : Option (Int32 × XO) := (fX2_justifyOne_l11 (nI (alen 2004)) i i i1 ((nI (alen 2004)).toNatClampNeg + 1) (0 : Int32) Ω).bind (Sum.elim (fun v => some v) (fun q_2 => (some ((0 : Int32), q_2.2))))
set_option maxRecDepth 20000 in
theorem tX2_justifyOne {G : XG} (hok : XK G) {i : Nat} {i1 : Nat} {Ω : XO} (hd0 : dm G 2 i) (hd1 : dm G 2002 i1)   {r : Int32 × XO} (hf : fX2_justifyOne Ω i i1 = some r) : XM G yX2_justifyOne cX2_justifyOne 7 ((some FieldType.boolean)) (RM 5 0) [.ref (ad G 2 i), .ref (ad G 2002 i1)] Ω (.inl (some (.int (r.1)))) r.2 := by
  refine x_start (lv := [(0, .ref (ad G 2 i)), (1, .ref (ad G 2002 i1))]) (own := RX2) hok (by decide +kernel) rfl (Nat.le_of_ble_eq_true rfl) rfl (fun B C => ?_)
  refine x_aload_n (pc2 := 1) C dX2_justifyOne_0 0 rfl rfl rfl ?_
  refine x_getR (f := 200) (k2 := 2004) (pc2 := 4) C (by assumption) kf_2_11 dX2_justifyOne_1 rfl rfl rfl (rti_i rfl) rfl (fun qd_1 => ?_)
  refine x_astore_n (pc2 := 5) (lv2 := [(2, _), (0, _), (1, _)]) C dX2_justifyOne_4 rfl (by decide) rfl rfl ?_
  refine x_aload_n (pc2 := 6) C dX2_justifyOne_5 0 rfl rfl rfl ?_
  refine x_alen (pc2 := 7) C (by assumption) dX2_justifyOne_6 rfl rfl rfl ?_
  refine x_istore_n (pc2 := 8) (lv2 := [(3, _), (2, _), (0, _), (1, _)]) C dX2_justifyOne_7 rfl (by decide) rfl rfl ?_
  refine x_iconst (pc2 := 9) (v := 0) C dX2_justifyOne_8 rfl rfl ?_
  refine x_istore (pc2 := 11) (lv2 := [(4, _), (3, _), (2, _), (0, _), (1, _)]) C dX2_justifyOne_9 (by decide) rfl rfl ?_
  rcases hq_2 : fX2_justifyOne_l11 (nI (alen 2004)) i i i1 ((nI (alen 2004)).toNatClampNeg + 1) (0 : Int32) Ω with _ | (v_2 | q_2)
  · exact absurd hf (by rw [fX2_justifyOne, hq_2, Option.bind_none]; exact nofun)
  · exact x_sub (lv2 := [(4, _), (3, _), (2, _), (0, _), (1, _)]) C [0, 1, 2, 3, 4] rfl (lX2_justifyOne_l11 hok (by assumption) (by assumption) (by assumption) C _ _ _ hq_2 (fun v9 h9 => by cases h9; rw [fX2_justifyOne, hq_2, Option.bind_some, Sum.elim_inl] at hf; cases hf; exact ⟨rfl, rfl⟩) (fun _ h9 => nomatch h9))
  refine x_sub (lv2 := [(4, _), (3, _), (2, _), (0, _), (1, _)]) C [0, 1, 2, 3, 4] rfl (lX2_justifyOne_l11 hok (by assumption) (by assumption) (by assumption) C _ _ _ hq_2 (fun _ h9 => nomatch h9) (fun q9 h9 => ?_))
  cases h9
  refine x_iconst (pc2 := 66) (v := 0) C dX2_justifyOne_65 rfl rfl ?_
  rw [fX2_justifyOne, hq_2, Option.bind_some, Sum.elim_inr] at hf
  cases hf
  exact x_zreturn C dX2_justifyOne_66 rfl (by first | exact Or.inl rfl | exact Or.inr rfl) (Nat.le_of_ble_eq_true rfl) (Nat.le_of_ble_eq_true rfl) rfl rfl
def fX2_settle_l4 (y0 : Nat) (y1 : Nat) : Nat → Int32 → Int32 → XO → Option (Int32 × Int32 × XO)
  | 0, _, _, _ => none
  | n + 1, y3, y2, Ω => (if y2 = 0 then (some (y3, y2, Ω)) else (if (100 : Int32) ≤ y3 then (some (y3, y2, Ω)) else (fX2_justifyOne Ω y0 y1).bind (fun r_3 => fX2_settle_l4 y0 y1 n (y3 + 1) r_3.1 r_3.2)))
set_option maxRecDepth 20000 in
theorem lX2_settle_l4 {G : XG} (hok : XK G) {B : XB} {y0 : Nat} {y1 : Nat}  (hf0 : dm G 2 y0) (hf1 : dm G 2002 y1)   {T : Option Value ⊕ String} {Ω9 : XO} (C : XC G B cX2_settle RX2 (RM 6 0) 4 none T Ω9) : ∀ (n : Nat) (y3 : Int32) (y2 : Int32) (Ω : XO) {r : (Int32 × Int32 × XO)}, fX2_settle_l4 y0 y1 n y3 y2 Ω = some r → (∀ q, r = q → (XW G B 4 26 [(0, .ref (ad G 2 (y0))), (1, .ref (ad G 2002 (y1)))] [] q.2.2 0 0)) → XW G B 4 4 [(3, .int (y3)), (2, .int (y2)), (0, .ref (ad G 2 (y0))), (1, .ref (ad G 2002 (y1)))] [] Ω 0 0 := by
  intro n
  induction n with
  | zero => intro y3 y2 Ω r hf; exact absurd hf (by rw [fX2_settle_l4]; exact nofun)
  | succ n ih =>
    intro y3 y2 Ω r hf hk
    refine x_iload_n (pc2 := 5) C dX2_settle_4 1 rfl rfl rfl ?_
    refine x_if_eq (tgt := 26) (pc2 := 8) C dX2_settle_5 (by decide) rfl (fun qc_1 => ?_) (fun qc_1 => ?_)
    · rw [fX2_settle_l4, if_pos qc_1] at hf
      exact x_sub (lv2 := [(0, _), (1, _)]) C [2, 3] rfl (hk _ (Option.some.inj hf).symm)
    · refine x_iload_n (pc2 := 9) C dX2_settle_8 0 rfl rfl rfl ?_
      refine x_bipush (pc2 := 11) (v := 100) C dX2_settle_9 rfl rfl ?_
      refine x_icmp_ge (tgt := 26) (pc2 := 14) C dX2_settle_11 (by decide) rfl (fun qc_2 => ?_) (fun qc_2 => ?_)
      · rw [fX2_settle_l4, if_neg qc_1, if_pos qc_2] at hf
        exact x_sub (lv2 := [(0, _), (1, _)]) C [2, 3] rfl (hk _ (Option.some.inj hf).symm)
      · refine x_aload_n (pc2 := 15) C dX2_settle_14 2 rfl rfl rfl ?_
        refine x_aload_n (pc2 := 16) C dX2_settle_15 3 rfl rfl rfl ?_
        rcases hq_3 : fX2_justifyOne Ω y0 y1 with _ | r_3
        · exact absurd hf (by rw [fX2_settle_l4, if_neg qc_1, if_neg qc_2, hq_3, Option.bind_none]; exact nofun)
        refine x_ret (rest := []) (st2 := [_]) (pc2 := 19) (cu2 := 0) (su2 := 0) (x_cV C (by assumption) (Nat.le_of_ble_eq_true rfl) kmX2_justifyOne rfl kk_2_18 (tX2_justifyOne hok (by assumption) (by assumption)  hq_3) rfl rfl (Nat.le_of_ble_eq_true rfl) ⟨Nat.le_of_ble_eq_true rfl, Nat.le_of_ble_eq_true rfl⟩ ⟨Nat.le_of_ble_eq_true rfl, Nat.le_of_ble_eq_true rfl⟩ dX2_settle_16) rfl rfl rfl rfl ?_
        refine x_istore_n (pc2 := 20) (lv2 := [(2, _), (3, _), (0, _), (1, _)]) C dX2_settle_19 rfl (by decide) rfl rfl ?_
        refine x_iinc (pc2 := 23) (v := y3 + 1) (lv2 := [(3, _), (2, _), (0, _), (1, _)]) C dX2_settle_20 1 rfl rfl (by decide) rfl rfl ?_
        refine x_goto (tgt := 4) C dX2_settle_23 (by decide) ?_
        exact x_sub (lv2 := [(3, _), (2, _), (0, _), (1, _)]) C [0, 1, 2, 3] rfl (ih _ _ _ (by rw [fX2_settle_l4, if_neg qc_1, if_neg qc_2, hq_3, Option.bind_some] at hf; exact hf) hk)
def fX2_settle (Ω : XO) (i : Nat) (i1 : Nat) : Option (XO) := (fX2_settle_l4 i i1 101 (0 : Int32) (1 : Int32) Ω).bind (fun q_1 => (some (fX2_moveFinal q_1.2.2 i i1)))
set_option maxRecDepth 20000 in
theorem tX2_settle {G : XG} (hok : XK G) {i : Nat} {i1 : Nat} {Ω : XO} (hd0 : dm G 2 i) (hd1 : dm G 2002 i1)   {r : XO} (hf : fX2_settle Ω i i1 = some r) : XM G yX2_settle cX2_settle 4 none (RM 6 0) [.ref (ad G 2 i), .ref (ad G 2002 i1)] Ω (.inl none) (r) := by
  refine x_start (lv := [(0, .ref (ad G 2 i)), (1, .ref (ad G 2002 i1))]) (own := RX2) hok (by decide +kernel) rfl (Nat.le_of_ble_eq_true rfl) rfl (fun B C => ?_)
  refine x_iconst (pc2 := 1) (v := 1) C dX2_settle_0 rfl rfl ?_
  refine x_istore_n (pc2 := 2) (lv2 := [(2, _), (0, _), (1, _)]) C dX2_settle_1 rfl (by decide) rfl rfl ?_
  refine x_iconst (pc2 := 3) (v := 0) C dX2_settle_2 rfl rfl ?_
  refine x_istore_n (pc2 := 4) (lv2 := [(3, _), (2, _), (0, _), (1, _)]) C dX2_settle_3 rfl (by decide) rfl rfl ?_
  rcases hq_1 : fX2_settle_l4 i i1 101 (0 : Int32) (1 : Int32) Ω with _ | q_1
  · exact absurd hf (by rw [fX2_settle, hq_1, Option.bind_none]; exact nofun)
  refine x_sub (lv2 := [(3, _), (2, _), (0, _), (1, _)]) C [0, 1, 2, 3] rfl (lX2_settle_l4 hok (by assumption) (by assumption) C _ _ _ _ hq_1 (fun q9 h9 => ?_))
  cases h9
  refine x_aload_n (pc2 := 27) C dX2_settle_26 0 rfl rfl rfl ?_
  refine x_aload_n (pc2 := 28) C dX2_settle_27 1 rfl rfl rfl ?_
  refine x_ret (rest := []) (st2 := []) (pc2 := 31) (cu2 := 0) (su2 := 0) (x_cV C (by assumption) (Nat.le_of_ble_eq_true rfl) kmX2_moveFinal rfl kk_2_22 (tX2_moveFinal hok (by assumption) (by assumption)) rfl rfl (Nat.le_of_ble_eq_true rfl) ⟨Nat.le_of_ble_eq_true rfl, Nat.le_of_ble_eq_true rfl⟩ ⟨Nat.le_of_ble_eq_true rfl, Nat.le_of_ble_eq_true rfl⟩ dX2_settle_28) rfl rfl rfl rfl ?_
  rw [fX2_settle, hq_1, Option.bind_some] at hf
  cases hf
  exact x_vreturn C dX2_settle_31 rfl (Nat.le_of_ble_eq_true rfl) (Nat.le_of_ble_eq_true rfl) rfl rfl
