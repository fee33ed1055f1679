theorem t_same {G : XG} (hok : XK G) {a0 a1 : Nat} (e0 : ad G 2018 0 = a0) (e1 : ad G 2018 1 = a1) (d0 : dm G 2018 0) (d1 : dm G 2018 1) {Ω : XO} (hs : ∀ j, j < 64 → xI Ω 2018 0 j = xI Ω 2018 1 j) : PM G yL_same cL_same 3 (some FieldType.boolean) (RM 0 0) [.ref a0, .ref a1] Ω (fun v G' Ω' => G' = G ∧ Ω' = Ω ∧ v = .int 1) := by
  refine p_start (lv := [(0, .ref a0), (1, .ref a1)]) (own := RL) hok (by decide +kernel) rfl (Nat.le_of_ble_eq_true rfl) rfl (fun B C hN E => ?_)
  have loop : ∀ m k : Nat, k + m = 64 → XW G B 3 2 [(2, .int (nI k)), (0, .ref a0), (1, .ref a1)] [] Ω 0 0 := by
    intro m
    induction m with
    | zero =>
      intro k hk
      refine z_iload_n (pc2 := 3) C dL_same_2 0 rfl rfl rfl ?_
      refine z_bipush (pc2 := 5) (v := 64) C dL_same_3 (by decide) rfl ?_
      refine z_icmp_ge (tgt := 25) (pc2 := 8) C dL_same_5 (by decide) rfl (fun qc => ?_) (fun qc => ?_)
      · skip
        refine z_iconst (pc2 := 26) (v := 1) C dL_same_25 (by decide) rfl ?_
        exact p_zreturn C E (gs.rf hok) dL_same_26 rfl (Or.inr rfl) (Nat.le_refl _) (Nat.le_refl _) ⟨rfl, rfl, rfl⟩
      · skip
        exact absurd (show (64 : Int32) ≤ nI k by rw [show k = 64 by omega]; decide) qc
    | succ m ih =>
      intro k hk
      have hk2 : k < 64 := by omega
      refine z_iload_n (pc2 := 3) C dL_same_2 0 rfl rfl rfl ?_
      refine z_bipush (pc2 := 5) (v := 64) C dL_same_3 (by decide) rfl ?_
      refine z_icmp_ge (tgt := 25) (pc2 := 8) C dL_same_5 (by decide) rfl (fun qc => ?_) (fun qc => ?_)
      · skip
        exact absurd qc (nI_ge (b := 64) hk2 (by decide))
      · skip
        refine z_aload_n (pc2 := 9) C dL_same_8 1 rfl rfl rfl ?_
        refine z_iload_n (pc2 := 10) C dL_same_9 0 rfl rfl rfl ?_
        refine z_ialdn (pc2 := 11) C e0 d0 dL_same_10 rfl hk2 (by decide) rfl rfl ?_
        refine z_aload_n (pc2 := 12) C dL_same_11 2 rfl rfl rfl ?_
        refine z_iload_n (pc2 := 13) C dL_same_12 0 rfl rfl rfl ?_
        refine z_ialdn (pc2 := 14) C e1 d1 dL_same_13 rfl hk2 (by decide) rfl rfl ?_
        refine z_icmp_eq (tgt := 19) (pc2 := 17) C dL_same_14 (by decide) rfl (fun qc => ?_) (fun qc => ?_)
        · skip
          refine z_iinc (pc2 := 22) (lv2 := [(2, .int (nI (k + 1))), (0, .ref a0), (1, .ref a1)]) C dL_same_19 0 rfl (nI_1 k) (by decide) rfl rfl ?_
          refine z_goto (tgt := 2) C dL_same_22 (by decide) ?_
          exact ih (k + 1) (by omega)
        · skip
          exact absurd (hs k hk2) qc
  refine z_iconst (pc2 := 1) (v := 0) C dL_same_0 rfl rfl ?_
  refine z_istore_n (pc2 := 2) (lv2 := [(2, .int (nI 0)), (0, .ref a0), (1, .ref a1)]) C dL_same_1 rfl (by decide) rfl rfl ?_
  exact loop 64 0 rfl
set_option maxRecDepth 20000 in
theorem t_proved {G : XG} (hok : XK G) {o : Nat} (eo : ad G 10 0 = o) (hd : dm G 10 0) {D : XD} {Ω M : XO} (h : RGD D Ω M) {c b a : Nat} (hc : c < 2) (hb : b < dnb D c) (ha : a < 16) (hdr : xI Ω 13 (24 * c + b) 0 = 0) : PM G yL_proved cL_proved 6 (some FieldType.boolean) (RM 10 56) [.ref o, .int (nI c), .int (nI b), .int (nI a)] Ω (fun v G' Ω' => G' = G ∧ Ω' = Ω ∧ v = .int 1) := by
  obtain ⟨l, hl, el⟩ := nod_rg h hc hb 0 (by decide) a ha
  obtain ⟨p0, h0, e0⟩ := nod_rg h hc hb 0 (by decide) (pidx a 0) (pix a ha 0 (by decide)).2.2.1
  obtain ⟨p1, h1, e1⟩ := nod_rg h hc hb 1 (by decide) (pidx a 1) (pix a ha 1 (by decide)).2.2.1
  obtain ⟨p2, h2, e2⟩ := nod_rg h hc hb 2 (by decide) (pidx a 2) (pix a ha 2 (by decide)).2.2.1
  obtain ⟨p3, h3, e3⟩ := nod_rg h hc hb 3 (by decide) (pidx a 3) (pix a ha 3 (by decide)).2.2.1
  have hq : led a (nI l) (nI p0) (nI p1) (nI p2) (nI p3) = xI Ω 12 (24 * c + b) 0 := by
    rw [← el, ← e0, ← e1, ← e2, ← e3]
    exact (led_n (lf := fun q => fX6_leafOf Ω (24 * c + b) (nI q)) ha).trans (nod_root h hc hb)
  have hl2 : (l + 1) % 1000003 < 1000003 := Nat.mod_lt _ (by decide)
  have hq2 : ¬ led a (nI ((l + 1) % 1000003)) (nI p0) (nI p1) (nI p2) (nI p3) = xI Ω 12 (24 * c + b) 0 := fun z => by
    have := led_i hl2 hl h0 h1 h2 h3 (z.trans hq.symm)
    omega
  have hrem : (nI l + 1) - (nI l + 1) / 1000003 * 1000003 = nI ((l + 1) % 1000003) := by
    rw [nI_1, show (1000003 : Int32) = nI 1000003 from rfl, rem_nI (by omega) (by decide) (by decide)]
  refine p_start (lv := [(0, .ref o), (1, .int (nI c)), (2, .int (nI b)), (3, .int (nI a))]) (own := RL) hok (by decide +kernel) rfl (Nat.le_of_ble_eq_true rfl) rfl (fun B C hN E => ?_)
  refine z_aload_n (pc2 := 1) C dL_proved_0 0 rfl rfl rfl ?_
  refine z_iload_n (pc2 := 2) C dL_proved_1 1 rfl rfl rfl ?_
  refine z_iload_n (pc2 := 3) C dL_proved_2 2 rfl rfl rfl ?_
  refine z_iload_n (pc2 := 4) C dL_proved_3 3 rfl rfl rfl ?_
  refine z_cR (rest := []) (pc2 := 7) (cu2 := 0 + 4) (su2 := 0 + 24) C eo hd (Nat.le_of_ble_eq_true rfl) kmX10_leaf rfl kk_L_67 (r_leaf hok eo hd h hc hb ha hdr) rfl rfl (Nat.le_of_ble_eq_true rfl) ⟨(Nat.le_of_ble_eq_true rfl), (Nat.le_of_ble_eq_true rfl)⟩ ⟨by show 0 + 4 ≤ 56; omega, by show 0 + 24 ≤ 336; omega⟩ dL_proved_4 rfl rfl rfl ?_
  refine z_cu (cu2 := 4) (su2 := 24) rfl rfl ?_
  refine z_vec (st2 := [.int (nI l)]) (by rw [el]) ?_
  refine z_istore (pc2 := 9) (lv2 := [(4, .int (nI l)), (0, .ref o), (1, .int (nI c)), (2, .int (nI b)), (3, .int (nI a))]) C dL_proved_7 (by decide) rfl rfl ?_
  refine z_aload_n (pc2 := 10) C dL_proved_9 1 rfl rfl rfl ?_
  refine z_iload_n (pc2 := 11) C dL_proved_10 2 rfl rfl rfl ?_
  refine z_iload_n (pc2 := 12) C dL_proved_11 3 rfl rfl rfl ?_
  refine z_iload_n (pc2 := 13) C dL_proved_12 4 rfl rfl rfl ?_
  refine z_iconst (pc2 := 14) (v := 0) C dL_proved_13 (by decide) rfl ?_
  refine z_cR (rest := []) (pc2 := 17) (cu2 := 4 + 5) (su2 := 24 + 30) C eo hd (Nat.le_of_ble_eq_true rfl) kmX10_proof rfl kk_L_70 (r_proof hok eo hd h hc hb ha (s := 0) (by decide) hdr) rfl rfl (Nat.le_of_ble_eq_true rfl) ⟨(Nat.le_of_ble_eq_true rfl), (Nat.le_of_ble_eq_true rfl)⟩ ⟨by show 4 + 5 ≤ 56; omega, by show 24 + 30 ≤ 336; omega⟩ dL_proved_14 rfl rfl rfl ?_
  refine z_cu (cu2 := 9) (su2 := 54) rfl rfl ?_
  refine z_vec (st2 := [.int (nI p0)]) (by rw [e0]) ?_
  refine z_istore (pc2 := 19) (lv2 := [(5, .int (nI p0)), (4, .int (nI l)), (0, .ref o), (1, .int (nI c)), (2, .int (nI b)), (3, .int (nI a))]) C dL_proved_17 (by decide) rfl rfl ?_
  refine z_aload_n (pc2 := 20) C dL_proved_19 2 rfl rfl rfl ?_
  refine z_iload_n (pc2 := 21) C dL_proved_20 3 rfl rfl rfl ?_
  refine z_iload_n (pc2 := 22) C dL_proved_21 4 rfl rfl rfl ?_
  refine z_iload_n (pc2 := 23) C dL_proved_22 5 rfl rfl rfl ?_
  refine z_iload (pc2 := 25) C dL_proved_23 1 rfl rfl ?_
  refine z_iload (pc2 := 27) C dL_proved_25 0 rfl rfl ?_
  refine z_aload_n (pc2 := 28) C dL_proved_27 2 rfl rfl rfl ?_
  refine z_iload_n (pc2 := 29) C dL_proved_28 3 rfl rfl rfl ?_
  refine z_iload_n (pc2 := 30) C dL_proved_29 4 rfl rfl rfl ?_
  refine z_iload_n (pc2 := 31) C dL_proved_30 5 rfl rfl rfl ?_
  refine z_iconst (pc2 := 32) (v := 1) C dL_proved_31 (by decide) rfl ?_
  refine z_cR (rest := [.int (nI p0), .int (nI l), .int (nI a), .int (nI b), .int (nI c), .ref o]) (pc2 := 35) (cu2 := 9 + 5) (su2 := 54 + 30) C eo hd (Nat.le_of_ble_eq_true rfl) kmX10_proof rfl kk_L_70 (r_proof hok eo hd h hc hb ha (s := 1) (by decide) hdr) rfl rfl (Nat.le_of_ble_eq_true rfl) ⟨(Nat.le_of_ble_eq_true rfl), (Nat.le_of_ble_eq_true rfl)⟩ ⟨by show 9 + 5 ≤ 56; omega, by show 54 + 30 ≤ 336; omega⟩ dL_proved_32 rfl rfl rfl ?_
  refine z_cu (cu2 := 14) (su2 := 84) rfl rfl ?_
  refine z_vec (st2 := [.int (nI p1), .int (nI p0), .int (nI l), .int (nI a), .int (nI b), .int (nI c), .ref o]) (by rw [e1]) ?_
  refine z_aload_n (pc2 := 36) C dL_proved_35 2 rfl rfl rfl ?_
  refine z_iload_n (pc2 := 37) C dL_proved_36 3 rfl rfl rfl ?_
  refine z_iload_n (pc2 := 38) C dL_proved_37 4 rfl rfl rfl ?_
  refine z_iload_n (pc2 := 39) C dL_proved_38 5 rfl rfl rfl ?_
  refine z_iconst (pc2 := 40) (v := 2) C dL_proved_39 (by decide) rfl ?_
  refine z_cR (rest := [.int (nI p1), .int (nI p0), .int (nI l), .int (nI a), .int (nI b), .int (nI c), .ref o]) (pc2 := 43) (cu2 := 14 + 5) (su2 := 84 + 30) C eo hd (Nat.le_of_ble_eq_true rfl) kmX10_proof rfl kk_L_70 (r_proof hok eo hd h hc hb ha (s := 2) (by decide) hdr) rfl rfl (Nat.le_of_ble_eq_true rfl) ⟨(Nat.le_of_ble_eq_true rfl), (Nat.le_of_ble_eq_true rfl)⟩ ⟨by show 14 + 5 ≤ 56; omega, by show 84 + 30 ≤ 336; omega⟩ dL_proved_40 rfl rfl rfl ?_
  refine z_cu (cu2 := 19) (su2 := 114) rfl rfl ?_
  refine z_vec (st2 := [.int (nI p2), .int (nI p1), .int (nI p0), .int (nI l), .int (nI a), .int (nI b), .int (nI c), .ref o]) (by rw [e2]) ?_
  refine z_aload_n (pc2 := 44) C dL_proved_43 2 rfl rfl rfl ?_
  refine z_iload_n (pc2 := 45) C dL_proved_44 3 rfl rfl rfl ?_
  refine z_iload_n (pc2 := 46) C dL_proved_45 4 rfl rfl rfl ?_
  refine z_iload_n (pc2 := 47) C dL_proved_46 5 rfl rfl rfl ?_
  refine z_iconst (pc2 := 48) (v := 3) C dL_proved_47 (by decide) rfl ?_
  refine z_cR (rest := [.int (nI p2), .int (nI p1), .int (nI p0), .int (nI l), .int (nI a), .int (nI b), .int (nI c), .ref o]) (pc2 := 51) (cu2 := 19 + 5) (su2 := 114 + 30) C eo hd (Nat.le_of_ble_eq_true rfl) kmX10_proof rfl kk_L_70 (r_proof hok eo hd h hc hb ha (s := 3) (by decide) hdr) rfl rfl (Nat.le_of_ble_eq_true rfl) ⟨(Nat.le_of_ble_eq_true rfl), (Nat.le_of_ble_eq_true rfl)⟩ ⟨by show 19 + 5 ≤ 56; omega, by show 114 + 30 ≤ 336; omega⟩ dL_proved_48 rfl rfl rfl ?_
  refine z_cu (cu2 := 24) (su2 := 144) rfl rfl ?_
  refine z_vec (st2 := [.int (nI p3), .int (nI p2), .int (nI p1), .int (nI p0), .int (nI l), .int (nI a), .int (nI b), .int (nI c), .ref o]) (by rw [e3]) ?_
  refine z_cR (rest := []) (pc2 := 54) (cu2 := 24 + 8) (su2 := 144 + 48) C eo hd (Nat.le_of_ble_eq_true rfl) kmX10_proves rfl kk_L_73 (r_proves hok eo hd h hc hb ha hl h0 h1 h2 h3) rfl rfl (Nat.le_of_ble_eq_true rfl) ⟨(Nat.le_of_ble_eq_true rfl), (Nat.le_of_ble_eq_true rfl)⟩ ⟨by show 24 + 8 ≤ 56; omega, by show 144 + 48 ≤ 336; omega⟩ dL_proved_51 rfl rfl rfl ?_
  refine z_cu (cu2 := 32) (su2 := 192) rfl rfl ?_
  refine z_vec (st2 := [.int 1]) (by rw [if_pos hq]) ?_
  refine z_if_eq (tgt := 104) (pc2 := 57) C dL_proved_54 (by decide) rfl (fun qc => ?_) (fun qc => ?_)
  · skip
    exact absurd qc (by decide)
  · skip
    refine z_aload_n (pc2 := 58) C dL_proved_57 2 rfl rfl rfl ?_
    refine z_iload_n (pc2 := 59) C dL_proved_58 3 rfl rfl rfl ?_
    refine z_iload_n (pc2 := 60) C dL_proved_59 4 rfl rfl rfl ?_
    refine z_iload_n (pc2 := 61) C dL_proved_60 5 rfl rfl rfl ?_
    refine z_iload (pc2 := 63) C dL_proved_61 1 rfl rfl ?_
    refine z_iconst (pc2 := 64) (v := 1) C dL_proved_63 (by decide) rfl ?_
    refine z_iadd (pc2 := 65) C dL_proved_64 rfl ?_
    refine z_ldc (pc2 := 67) C kc_L_77 dL_proved_65 rfl ?_
    refine z_irem (pc2 := 68) C dL_proved_67 (by decide) rfl ?_
    refine z_vec (st2 := [.int (nI ((l + 1) % 1000003)), .int (nI a), .int (nI b), .int (nI c), .ref o]) (by rw [hrem]) ?_
    refine z_iload (pc2 := 70) C dL_proved_68 0 rfl rfl ?_
    refine z_aload_n (pc2 := 71) C dL_proved_70 2 rfl rfl rfl ?_
    refine z_iload_n (pc2 := 72) C dL_proved_71 3 rfl rfl rfl ?_
    refine z_iload_n (pc2 := 73) C dL_proved_72 4 rfl rfl rfl ?_
    refine z_iload_n (pc2 := 74) C dL_proved_73 5 rfl rfl rfl ?_
    refine z_iconst (pc2 := 75) (v := 1) C dL_proved_74 (by decide) rfl ?_
    refine z_cR (rest := [.int (nI p0), .int (nI ((l + 1) % 1000003)), .int (nI a), .int (nI b), .int (nI c), .ref o]) (pc2 := 78) (cu2 := 32 + 5) (su2 := 192 + 30) C eo hd (Nat.le_of_ble_eq_true rfl) kmX10_proof rfl kk_L_70 (r_proof hok eo hd h hc hb ha (s := 1) (by decide) hdr) rfl rfl (Nat.le_of_ble_eq_true rfl) ⟨(Nat.le_of_ble_eq_true rfl), (Nat.le_of_ble_eq_true rfl)⟩ ⟨by show 32 + 5 ≤ 56; omega, by show 192 + 30 ≤ 336; omega⟩ dL_proved_75 rfl rfl rfl ?_
    refine z_cu (cu2 := 37) (su2 := 222) rfl rfl ?_
    refine z_vec (st2 := [.int (nI p1), .int (nI p0), .int (nI ((l + 1) % 1000003)), .int (nI a), .int (nI b), .int (nI c), .ref o]) (by rw [e1]) ?_
    refine z_aload_n (pc2 := 79) C dL_proved_78 2 rfl rfl rfl ?_
    refine z_iload_n (pc2 := 80) C dL_proved_79 3 rfl rfl rfl ?_
    refine z_iload_n (pc2 := 81) C dL_proved_80 4 rfl rfl rfl ?_
    refine z_iload_n (pc2 := 82) C dL_proved_81 5 rfl rfl rfl ?_
    refine z_iconst (pc2 := 83) (v := 2) C dL_proved_82 (by decide) rfl ?_
    refine z_cR (rest := [.int (nI p1), .int (nI p0), .int (nI ((l + 1) % 1000003)), .int (nI a), .int (nI b), .int (nI c), .ref o]) (pc2 := 86) (cu2 := 37 + 5) (su2 := 222 + 30) C eo hd (Nat.le_of_ble_eq_true rfl) kmX10_proof rfl kk_L_70 (r_proof hok eo hd h hc hb ha (s := 2) (by decide) hdr) rfl rfl (Nat.le_of_ble_eq_true rfl) ⟨(Nat.le_of_ble_eq_true rfl), (Nat.le_of_ble_eq_true rfl)⟩ ⟨by show 37 + 5 ≤ 56; omega, by show 222 + 30 ≤ 336; omega⟩ dL_proved_83 rfl rfl rfl ?_
    refine z_cu (cu2 := 42) (su2 := 252) rfl rfl ?_
    refine z_vec (st2 := [.int (nI p2), .int (nI p1), .int (nI p0), .int (nI ((l + 1) % 1000003)), .int (nI a), .int (nI b), .int (nI c), .ref o]) (by rw [e2]) ?_
    refine z_aload_n (pc2 := 87) C dL_proved_86 2 rfl rfl rfl ?_
    refine z_iload_n (pc2 := 88) C dL_proved_87 3 rfl rfl rfl ?_
    refine z_iload_n (pc2 := 89) C dL_proved_88 4 rfl rfl rfl ?_
    refine z_iload_n (pc2 := 90) C dL_proved_89 5 rfl rfl rfl ?_
    refine z_iconst (pc2 := 91) (v := 3) C dL_proved_90 (by decide) rfl ?_
    refine z_cR (rest := [.int (nI p2), .int (nI p1), .int (nI p0), .int (nI ((l + 1) % 1000003)), .int (nI a), .int (nI b), .int (nI c), .ref o]) (pc2 := 94) (cu2 := 42 + 5) (su2 := 252 + 30) C eo hd (Nat.le_of_ble_eq_true rfl) kmX10_proof rfl kk_L_70 (r_proof hok eo hd h hc hb ha (s := 3) (by decide) hdr) rfl rfl (Nat.le_of_ble_eq_true rfl) ⟨(Nat.le_of_ble_eq_true rfl), (Nat.le_of_ble_eq_true rfl)⟩ ⟨by show 42 + 5 ≤ 56; omega, by show 252 + 30 ≤ 336; omega⟩ dL_proved_91 rfl rfl rfl ?_
    refine z_cu (cu2 := 47) (su2 := 282) rfl rfl ?_
    refine z_vec (st2 := [.int (nI p3), .int (nI p2), .int (nI p1), .int (nI p0), .int (nI ((l + 1) % 1000003)), .int (nI a), .int (nI b), .int (nI c), .ref o]) (by rw [e3]) ?_
    refine z_cR (rest := []) (pc2 := 97) (cu2 := 47 + 8) (su2 := 282 + 48) C eo hd (Nat.le_of_ble_eq_true rfl) kmX10_proves rfl kk_L_73 (r_proves hok eo hd h hc hb ha hl2 h0 h1 h2 h3) rfl rfl (Nat.le_of_ble_eq_true rfl) ⟨(Nat.le_of_ble_eq_true rfl), (Nat.le_of_ble_eq_true rfl)⟩ ⟨by show 47 + 8 ≤ 56; omega, by show 282 + 48 ≤ 336; omega⟩ dL_proved_94 rfl rfl rfl ?_
    refine z_cu (cu2 := 55) (su2 := 330) rfl rfl ?_
    refine z_vec (st2 := [.int 0]) (by rw [if_neg hq2]) ?_
    refine z_if_ne (tgt := 104) (pc2 := 100) C dL_proved_97 (by decide) rfl (fun qc => ?_) (fun qc => ?_)
    · skip
      exact absurd rfl qc
    · skip
      refine z_iconst (pc2 := 101) (v := 1) C dL_proved_100 (by decide) rfl ?_
      refine z_goto (tgt := 105) C dL_proved_101 (by decide) ?_
      exact p_zreturn C E (gs.rf hok) dL_proved_105 rfl (Or.inr rfl) (Nat.le_of_ble_eq_true rfl) (Nat.le_of_ble_eq_true rfl) ⟨rfl, rfl, rfl⟩
