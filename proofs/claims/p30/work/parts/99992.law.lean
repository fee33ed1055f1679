theorem LI.on {D : XD} {Ω Ω' : XO} (h : LI D Ω) (hr : RP D Ω') (hk : ∀ i j, xI Ω' 2017 i j = xI Ω 2017 i j) : LI D Ω' := ⟨hr, fun c hc => by
  obtain ⟨n1, n2, ⟨f, f1, f2⟩, n4⟩ := h.2 c hc
  exact ⟨(hk _ _).trans n1, (hk _ _).trans n2, ⟨f, f1, (hk _ _).trans f2⟩, n4⟩⟩
theorem LI.onR {D : XD} {Ω Ω' : XO} (h : LI D Ω) {e : Nat} {row : Nat → Int32} (ho : onR e Ω Ω' row) : LI D Ω' := h.on (ho.rp h.1) (fun i j => ho.1 _ _ _ (by omega))
theorem oS_17 (j : Nat) : xI oS 2017 0 j = 0 := by
  show (if (1100 ≤ 2017 ∧ 2017 < 1200) ∨ 2100 ≤ 2017 then oM.1 2017 0 j else if 2017 = 2017 then (0 : Int32) else oI.1 2017 0 j) = 0
  rw [if_neg (by decide), if_pos rfl]
theorem li0 : LI D0 (uI (uI oS 2017 0 (nI 0).toNatClampNeg 1) 2017 0 (nI 1).toNatClampNeg 1) := by
  have b0 : ∀ c b : Nat, b < dnb D0 c → b = 0 := fun c b hb => by
    have h1 : b < 1 := hb
    omega
  have old : ∀ f i, (f = 6 ∨ f = 13) → xI oS f i 0 = 0 := fun f i hf => by
    rw [(oS_c (Or.inl (by omega))).1, oI_old (fun z => by omega)]
    rcases hf with rfl | rfl <;> rfl
  have hr : RP D0 oS := by
    refine ⟨⟨oS, rgd_oS⟩, fun c hc b hb => ⟨0, by decide, old 6 _ (Or.inl rfl)⟩, fun c hc => (rgd_oS.JL c hc).1, fun c hc b hb h13 => ?_⟩
    rw [old 13 _ (Or.inr rfl)] at h13
    exact absurd h13 (by decide)
  refine ⟨(hr.note 0 1).note 1 1, fun c hc => ⟨?_, ?_, ⟨0, Nat.le_refl _, ?_⟩, by show 1 ≤ 21; decide, by show 0 ≤ 31; decide⟩⟩
  · rcases (show c = 0 ∨ c = 1 by omega) with rfl | rfl
    · show xI (uI (uI oS 2017 0 0 1) 2017 0 1 1) 2017 0 0 = nI 1
      rw [I_uI, if_neg (by decide), I_uI, if_pos ⟨rfl, rfl, rfl⟩]
      rfl
    · show xI (uI (uI oS 2017 0 0 1) 2017 0 1 1) 2017 0 1 = nI 1
      rw [I_uI, if_pos ⟨rfl, rfl, rfl⟩]
      rfl
  · show xI (uI (uI oS 2017 0 0 1) 2017 0 1 1) 2017 0 (2 + c) = nI 0
    rw [I_uI, if_neg (fun z => by omega), I_uI, if_neg (fun z => by omega), oS_17]
    rfl
  · show xI (uI (uI oS 2017 0 0 1) 2017 0 1 1) 2017 0 (4 + c) = nI 0
    rw [I_uI, if_neg (fun z => by omega), I_uI, if_neg (fun z => by omega), oS_17]
    rfl
set_option maxRecDepth 20000 in
theorem law_1 {G : XG} {B : XB} (C : XZ G B cL_law RL room_1 8) (hN : XNB B) (hok : XK G) {b L : Nat} {xs : Nat → Int32} (S : XSc G b L xs B) (hL : L ≤ 260) {o nn : Nat} (eo : ad G 10 0 = o) (en : ad G 2017 0 = nn) (hd : dm G 10 0) (hdn : dm G 2017 0) {D : XD} {c1 s1 : Nat} (hc1 : c1 ≤ 600052) (hs1 : s1 ≤ 7301782) (kk : ∀ Ω', LI D Ω' → XW G B 8 96 [(0, .ref b), (1, .ref o), (2, .ref nn)] [] Ω' c1 s1) : ∀ (m k : Nat) (Ω : XO) (cu su : Nat), k + m = 40 → LI D Ω → cu + 6 * m ≤ c1 → su + 36 * m ≤ s1 → XW G B 8 23 [(0, .ref b), (1, .ref o), (2, .ref nn), (3, .int (nI k))] [] Ω cu su := by
  intro m
  induction m with
  | zero =>
    intro k Ω cu su h1 hI h2 h3
    refine z_iload_n (pc2 := 24) C dL_law_23 3 rfl rfl rfl ?_
    refine z_bipush (pc2 := 26) (v := 40) C dL_law_24 (by decide) rfl ?_
    refine z_icmp_ge (tgt := 96) (pc2 := 29) C dL_law_26 (by decide) rfl (fun qc => ?_) (fun qc => ?_)
    · skip
      exact z_sub (lv2 := [(0, .ref b), (1, .ref o), (2, .ref nn)]) C [0, 1, 2] rfl (z_wid (by omega) (by omega) (kk Ω hI))
    · skip
      exact absurd (show (40 : Int32) ≤ nI k by rw [show k = 40 by omega]; decide) qc
  | succ m ih =>
    intro k Ω cu su h1 hI h2 h3
    have hk : k < 40 := by omega
    refine z_iload_n (pc2 := 24) C dL_law_23 3 rfl rfl rfl ?_
    refine z_bipush (pc2 := 26) (v := 40) C dL_law_24 (by decide) rfl ?_
    refine z_icmp_ge (tgt := 96) (pc2 := 29) C dL_law_26 (by decide) rfl (fun qc => ?_) (fun qc => ?_)
    · skip
      exact absurd qc (nI_ge (b := 40) hk (by decide))
    · skip
      refine z_aload_n (pc2 := 30) C dL_law_29 0 rfl rfl rfl ?_
      refine z_iload_n (pc2 := 31) C dL_law_30 3 rfl rfl rfl ?_
      refine z_cPS (rest := []) (pc2 := 34) (cu2 := cu) (su2 := su) C hN S kmL_cell kk_L_117 (t_cell hok hL (j := k) (by omega)) rfl rfl (Nat.le_of_ble_eq_true rfl) ⟨(Nat.le_of_ble_eq_true rfl), (Nat.le_of_ble_eq_true rfl)⟩ ⟨by show cu + 0 ≤ 600052; omega, by show su + 0 ≤ 7301782; omega⟩ dL_law_31 rfl rfl rfl (fun v9 G9 Ω9 hv9 hg9 C9 => ?_)
      obtain ⟨rfl, rfl, y, rfl⟩ := hv9
      refine z_istore (pc2 := 36) (lv2 := [(4, .int y), (0, .ref b), (1, .ref o), (2, .ref nn), (3, .int (nI k))]) C dL_law_34 (by decide) rfl rfl ?_
      refine z_aload_n (pc2 := 37) C dL_law_36 2 rfl rfl rfl ?_
      refine z_iload (pc2 := 39) C dL_law_37 0 rfl rfl ?_
      refine z_iconst (pc2 := 40) (v := 4) C dL_law_39 (by decide) rfl ?_
      refine x_ret (rest := [.ref o]) (st2 := [.int (lw y 4), .ref o]) (pc2 := 43) (cu2 := cu) (su2 := su) (z_cS C kmL_low kk_L_21 (t_low hok (n := 4) (by decide)) rfl rfl (Nat.le_of_ble_eq_true rfl) ⟨(Nat.le_of_ble_eq_true rfl), (Nat.le_of_ble_eq_true rfl)⟩ ⟨by show cu + 0 ≤ 600052; omega, by show su + 0 ≤ 7301782; omega⟩ dL_law_40) rfl rfl rfl rfl ?_
      refine z_iload (pc2 := 45) C dL_law_43 0 rfl rfl ?_
      refine z_iconst (pc2 := 46) (v := 2) C dL_law_45 (by decide) rfl ?_
      refine z_ishr (pc2 := 47) C dL_law_46 rfl ?_
      refine z_bipush (pc2 := 49) (v := 25) C dL_law_47 (by decide) rfl ?_
      refine x_ret (rest := [.int (lw y 4), .ref o]) (st2 := [.int (lw (y >>> ((2 : Int32) &&& 31)) 25), .int (lw y 4), .ref o]) (pc2 := 52) (cu2 := cu) (su2 := su) (z_cS C kmL_low kk_L_21 (t_low hok (n := 25) (by decide)) rfl rfl (Nat.le_of_ble_eq_true rfl) ⟨(Nat.le_of_ble_eq_true rfl), (Nat.le_of_ble_eq_true rfl)⟩ ⟨by show cu + 0 ≤ 600052; omega, by show su + 0 ≤ 7301782; omega⟩ dL_law_49) rfl rfl rfl rfl ?_
      refine z_iload (pc2 := 54) C dL_law_52 0 rfl rfl ?_
      refine z_bipush (pc2 := 56) (v := 7) C dL_law_54 (by decide) rfl ?_
      refine z_ishr (pc2 := 57) C dL_law_56 rfl ?_
      refine z_iconst (pc2 := 58) (v := 5) C dL_law_57 (by decide) rfl ?_
      refine x_ret (rest := [.int (lw (y >>> ((2 : Int32) &&& 31)) 25), .int (lw y 4), .ref o]) (st2 := [.int (lw (y >>> ((7 : Int32) &&& 31)) 5), .int (lw (y >>> ((2 : Int32) &&& 31)) 25), .int (lw y 4), .ref o]) (pc2 := 61) (cu2 := cu) (su2 := su) (z_cS C kmL_low kk_L_21 (t_low hok (n := 5) (by decide)) rfl rfl (Nat.le_of_ble_eq_true rfl) ⟨(Nat.le_of_ble_eq_true rfl), (Nat.le_of_ble_eq_true rfl)⟩ ⟨by show cu + 0 ≤ 600052; omega, by show su + 0 ≤ 7301782; omega⟩ dL_law_58) rfl rfl rfl rfl ?_
      have J : ∀ a3 : Int32, XW G9 B 8 86 [(4, .int y), (0, .ref b), (1, .ref o), (2, .ref nn), (3, .int (nI k))] [.int a3, .int (lw (y >>> ((2 : Int32) &&& 31)) 25), .int (lw y 4), .ref o] Ω9 cu su := fun a3 => by
        obtain ⟨T, C', hf, hkl, hrp, hT⟩ := m_step hI.1 ((lw y 4)) ((lw (y >>> ((2 : Int32) &&& 31)) 25)) a3
        obtain ⟨r, hr⟩ := hvc_ex (z := false) hT
        refine x_ret (rest := []) (st2 := [.int r]) (pc2 := 89) (cu2 := cu + 6) (su2 := su + 36) (z_cH C hN kmL_steps rfl kk_L_121 (hL_steps hok eo hd hf hr) rfl rfl (Nat.le_of_ble_eq_true rfl) ⟨(Nat.le_of_ble_eq_true rfl), (Nat.le_of_ble_eq_true rfl)⟩ ⟨by show cu + 6 ≤ 600052; omega, by show su + 36 ≤ 7301782; omega⟩ dL_law_86) rfl rfl rfl rfl ?_
        refine z_pop (pc2 := 90) C dL_law_89 rfl rfl ?_
        refine z_iinc (pc2 := 93) (lv2 := [(3, .int (nI (k + 1))), (4, .int y), (0, .ref b), (1, .ref o), (2, .ref nn)]) C dL_law_90 4 rfl (nI_1 k) (by decide) rfl rfl ?_
        refine z_goto (tgt := 23) C dL_law_93 (by decide) ?_
        exact z_sub (lv2 := [(0, .ref b), (1, .ref o), (2, .ref nn), (3, .int (nI (k + 1)))]) C [2, 3, 4, 0] rfl (ih (k + 1) _ (cu + 6) (su + 36) (by omega) (hI.keep hrp hkl) (by omega) (by omega))
      refine z_if_ne (tgt := 77) (pc2 := 64) C dL_law_61 (by decide) rfl (fun qc => ?_) (fun qc => ?_)
      · skip
        refine z_iload (pc2 := 79) C dL_law_77 0 rfl rfl ?_
        refine z_bipush (pc2 := 81) (v := 9) C dL_law_79 (by decide) rfl ?_
        refine z_ishr (pc2 := 82) C dL_law_81 rfl ?_
        refine z_iconst (pc2 := 83) (v := 4) C dL_law_82 (by decide) rfl ?_
        refine x_ret (rest := [.int (lw (y >>> ((2 : Int32) &&& 31)) 25), .int (lw y 4), .ref o]) (st2 := [.int (lw (y >>> ((9 : Int32) &&& 31)) 4), .int (lw (y >>> ((2 : Int32) &&& 31)) 25), .int (lw y 4), .ref o]) (pc2 := 86) (cu2 := cu) (su2 := su) (z_cS C kmL_low kk_L_21 (t_low hok (n := 4) (by decide)) rfl rfl (Nat.le_of_ble_eq_true rfl) ⟨(Nat.le_of_ble_eq_true rfl), (Nat.le_of_ble_eq_true rfl)⟩ ⟨by show cu + 0 ≤ 600052; omega, by show su + 0 ≤ 7301782; omega⟩ dL_law_83) rfl rfl rfl rfl ?_
        exact J _
      · skip
        refine z_iload (pc2 := 66) C dL_law_64 0 rfl rfl ?_
        refine z_bipush (pc2 := 68) (v := 9) C dL_law_66 (by decide) rfl ?_
        refine z_ishr (pc2 := 69) C dL_law_68 rfl ?_
        refine z_bipush (pc2 := 71) (v := 16) C dL_law_69 (by decide) rfl ?_
        refine x_ret (rest := [.int (lw (y >>> ((2 : Int32) &&& 31)) 25), .int (lw y 4), .ref o]) (st2 := [.int (lw (y >>> ((9 : Int32) &&& 31)) 16), .int (lw (y >>> ((2 : Int32) &&& 31)) 25), .int (lw y 4), .ref o]) (pc2 := 74) (cu2 := cu) (su2 := su) (z_cS C kmL_low kk_L_21 (t_low hok (n := 16) (by decide)) rfl rfl (Nat.le_of_ble_eq_true rfl) ⟨(Nat.le_of_ble_eq_true rfl), (Nat.le_of_ble_eq_true rfl)⟩ ⟨by show cu + 0 ≤ 600052; omega, by show su + 0 ≤ 7301782; omega⟩ dL_law_71) rfl rfl rfl rfl ?_
        refine z_goto (tgt := 86) C dL_law_74 (by decide) ?_
        exact J _
theorem le_39 {su m s1 : Nat} (h : su + 39120 * (m + 1) ≤ s1) (h1 : s1 ≤ 7301782) : su + 3060 + 36000 ≤ 7301782 := by
  rw [Nat.add_assoc]
  exact Nat.le_trans (Nat.add_le_add_left (Nat.le_trans (show 3060 + 36000 ≤ 39120 * 1 from Nat.le_of_ble_eq_true rfl) (Nat.mul_le_mul_left 39120 (Nat.succ_le_succ (Nat.zero_le m)))) su) (Nat.le_trans h h1)
set_option maxRecDepth 20000 in
theorem law_2 {G : XG} {B : XB} (C : XZ G B cL_law RL room_1 8) (hN : XNB B) (hok : XK G) {b L : Nat} {xs : Nat → Int32} (S : XSc G b L xs B) (hL : L ≤ 260) {o nn : Nat} (eo : ad G 10 0 = o) (en : ad G 2017 0 = nn) (hd : dm G 10 0) (hdn : dm G 2017 0) (hn0 : ∀ e, ¬ dm G 2018 e) {c1 s1 : Nat} (hc1 : c1 ≤ 600052) (hs1 : s1 ≤ 7301782) (kk : ∀ D' Ω', LI D' Ω' → XW G B 8 206 [(0, .ref b), (1, .ref o), (2, .ref nn)] [] Ω' c1 s1) : ∀ (m k : Nat) (D : XD) (Ω : XO) (cu su : Nat), k + m = 40 → LI D Ω → cu + 6520 * m ≤ c1 → su + 39120 * m ≤ s1 → XW G B 8 98 [(0, .ref b), (1, .ref o), (2, .ref nn), (3, .int (nI k))] [] Ω cu su := by
  intro m
  induction m with
  | zero =>
    intro k D Ω cu su h1 hI h2 h3
    refine z_iload_n (pc2 := 99) C dL_law_98 3 rfl rfl rfl ?_
    refine z_bipush (pc2 := 101) (v := 40) C dL_law_99 (by decide) rfl ?_
    refine z_icmp_ge (tgt := 206) (pc2 := 104) C dL_law_101 (by decide) rfl (fun qc => ?_) (fun qc => ?_)
    · skip
      exact z_sub (lv2 := [(0, .ref b), (1, .ref o), (2, .ref nn)]) C [0, 1, 2] rfl (z_wid (by omega) (by omega) (kk D Ω hI))
    · skip
      exact absurd (show (40 : Int32) ≤ nI k by rw [show k = 40 by omega]; decide) qc
  | succ m ih =>
    intro k D Ω cu su h1 hI h2 h3
    have hk : k < 40 := by omega
    have K2 : ∀ (x : Int32) (D2 : XD) (Ω2 : XO), LI D2 Ω2 → XW G B 8 178 [(0, .ref b), (1, .ref o), (2, .ref nn), (3, .int (nI k)), (4, .int x)] [] Ω2 (cu + 510) (su + 3060) := fun x D2 Ω2 hI2 => by
      have fin : ∀ Ω4, LI D2 Ω4 → XW G B 8 200 [(0, .ref b), (1, .ref o), (2, .ref nn), (3, .int (nI k)), (4, .int x)] [] Ω4 (cu + 6510) (su + 39060) := fun Ω4 hI4 => by
        refine z_iinc (pc2 := 203) (lv2 := [(3, .int (nI (k + 1))), (0, .ref b), (1, .ref o), (2, .ref nn), (4, .int x)]) C dL_law_200 3 rfl (nI_1 k) (by decide) rfl rfl ?_
        refine z_goto (tgt := 98) C dL_law_203 (by decide) ?_
        exact z_sub (lv2 := [(0, .ref b), (1, .ref o), (2, .ref nn), (3, .int (nI (k + 1)))]) C [1, 2, 3, 0] rfl (ih (k + 1) D2 Ω4 (cu + 6510) (su + 39060) (by omega) hI4 (by omega) (by omega))
      refine z_iload (pc2 := 180) C dL_law_178 4 rfl rfl ?_
      refine z_bipush (pc2 := 182) (v := 6) C dL_law_180 (by decide) rfl ?_
      refine x_ret (rest := []) (st2 := [.int (lw x 6)]) (pc2 := 185) (cu2 := cu + 510) (su2 := su + 3060) (z_cS C kmL_low kk_L_21 (t_low hok (n := 6) (by decide)) rfl rfl (Nat.le_of_ble_eq_true rfl) ⟨(Nat.le_of_ble_eq_true rfl), (Nat.le_of_ble_eq_true rfl)⟩ ⟨by show cu + 510 + 0 ≤ 600052; omega, by show su + 3060 + 0 ≤ 7301782; omega⟩ dL_law_182) rfl rfl rfl rfl ?_
      refine z_if_ne (tgt := 200) (pc2 := 188) C dL_law_185 (by decide) rfl (fun qc => ?_) (fun qc => ?_)
      · skip
        exact z_wid (by omega) (by omega) (fin Ω2 hI2)
      · skip
        refine z_aload_n (pc2 := 189) C dL_law_188 1 rfl rfl rfl ?_
        refine z_aload_n (pc2 := 190) C dL_law_189 2 rfl rfl rfl ?_
        refine z_iload (pc2 := 192) C dL_law_190 4 rfl rfl ?_
        refine z_cP (rest := []) (pc2 := 195) (cu2 := cu + 6510) (su2 := su + 39060) C hN kmL_asks kk_L_136 (t_asks hok eo en hd hdn hI2) rfl rfl (Nat.le_of_ble_eq_true rfl) ⟨(Nat.le_of_ble_eq_true rfl), (Nat.le_of_ble_eq_true rfl)⟩ ⟨by show cu + 510 + 6000 ≤ 600052; omega, le_39 h3 hs1⟩ dL_law_192 rfl rfl rfl (fun v9 G9 Ω4 hv9 hg9 C9 => ?_)
        obtain ⟨rfl, rfl, hI4, -⟩ := hv9
        refine z_if_ne (tgt := 200) (pc2 := 198) C dL_law_195 (by decide) rfl (fun qc => ?_) (fun qc => ?_)
        · skip
          exact fin Ω4 hI4
        · skip
          exact absurd qc (by decide)
    refine z_iload_n (pc2 := 99) C dL_law_98 3 rfl rfl rfl ?_
    refine z_bipush (pc2 := 101) (v := 40) C dL_law_99 (by decide) rfl ?_
    refine z_icmp_ge (tgt := 206) (pc2 := 104) C dL_law_101 (by decide) rfl (fun qc => ?_) (fun qc => ?_)
    · skip
      exact absurd qc (nI_ge (b := 40) hk (by decide))
    · skip
      refine z_aload_n (pc2 := 105) C dL_law_104 0 rfl rfl rfl ?_
      refine z_bipush (pc2 := 107) (v := 40) C dL_law_105 (by decide) rfl ?_
      refine z_iconst (pc2 := 108) (v := 2) C dL_law_107 (by decide) rfl ?_
      refine z_iload_n (pc2 := 109) C dL_law_108 3 rfl rfl rfl ?_
      refine z_imul (pc2 := 110) C dL_law_109 rfl ?_
      refine z_iadd (pc2 := 111) C dL_law_110 rfl ?_
      refine z_vec (st2 := [.int (nI (40 + 2 * k)), .ref b]) (by rw [show (40 : Int32) = nI 40 from rfl, show (2 : Int32) = nI 2 from rfl, nI_mul, nI_add]) ?_
      refine z_cPS (rest := []) (pc2 := 114) (cu2 := cu) (su2 := su) C hN S kmL_cell kk_L_117 (t_cell hok hL (j := 40 + 2 * k) (by omega)) rfl rfl (Nat.le_of_ble_eq_true rfl) ⟨(Nat.le_of_ble_eq_true rfl), (Nat.le_of_ble_eq_true rfl)⟩ ⟨by show cu + 0 ≤ 600052; omega, by show su + 0 ≤ 7301782; omega⟩ dL_law_111 rfl rfl rfl (fun v9 G9 Ω9 hv9 hg9 C9 => ?_)
      obtain ⟨rfl, rfl, x, rfl⟩ := hv9
      refine z_istore (pc2 := 116) (lv2 := [(4, .int x), (0, .ref b), (1, .ref o), (2, .ref nn), (3, .int (nI k))]) C dL_law_114 (by decide) rfl rfl ?_
      refine z_aload_n (pc2 := 117) C dL_law_116 1 rfl rfl rfl ?_
      refine z_bipush (pc2 := 119) (v := 41) C dL_law_117 (by decide) rfl ?_
      refine z_iconst (pc2 := 120) (v := 2) C dL_law_119 (by decide) rfl ?_
      refine z_iload_n (pc2 := 121) C dL_law_120 4 rfl rfl rfl ?_
      refine z_imul (pc2 := 122) C dL_law_121 rfl ?_
      refine z_iadd (pc2 := 123) C dL_law_122 rfl ?_
      refine z_vec (st2 := [.int (nI (41 + 2 * k)), .ref b]) (by rw [show (41 : Int32) = nI 41 from rfl, show (2 : Int32) = nI 2 from rfl, nI_mul, nI_add]) ?_
      refine z_cPS (rest := []) (pc2 := 126) (cu2 := cu) (su2 := su) C hN S kmL_cell kk_L_117 (t_cell hok hL (j := 41 + 2 * k) (by omega)) rfl rfl (Nat.le_of_ble_eq_true rfl) ⟨(Nat.le_of_ble_eq_true rfl), (Nat.le_of_ble_eq_true rfl)⟩ ⟨by show cu + 0 ≤ 600052; omega, by show su + 0 ≤ 7301782; omega⟩ dL_law_123 rfl rfl rfl (fun v9 G9 Ω9 hv9 hg9 C9 => ?_)
      obtain ⟨rfl, rfl, y, rfl⟩ := hv9
      refine z_istore (pc2 := 128) (lv2 := [(5, .int y), (4, .int x), (0, .ref b), (1, .ref o), (2, .ref nn), (3, .int (nI k))]) C dL_law_126 (by decide) rfl rfl ?_
      refine z_aload_n (pc2 := 129) C dL_law_128 3 rfl rfl rfl ?_
      refine z_aload_n (pc2 := 130) C dL_law_129 4 rfl rfl rfl ?_
      refine z_cP (rest := []) (pc2 := 133) (cu2 := cu + 240) (su2 := su + 1440) C hN kmL_tell kk_L_124 (t_tell hok eo en hd hdn (hn0 0) hI.1 (fun c hc => (hI.2 c hc).1)) rfl rfl (Nat.le_of_ble_eq_true rfl) ⟨(Nat.le_of_ble_eq_true rfl), (Nat.le_of_ble_eq_true rfl)⟩ ⟨by show cu + 240 ≤ 600052; omega, by show su + 1440 ≤ 7301782; omega⟩ dL_law_130 rfl rfl rfl (fun v9 G1 Ω1 hv9 hg1 C1 => ?_)
      obtain ⟨a0, rfl, ha0, rfl, hon⟩ := hv9
      have hok1 : XK (gx _ 0 a0) := hg1.1
      have eo1 := (gx_ad3 (e := 0) (a := a0) (show (10 : Nat) ≠ 2018 by decide)).trans eo
      have en1 := (gx_ad3 (e := 0) (a := a0) (show (2017 : Nat) ≠ 2018 by decide)).trans en
      have hd1 := gx_dm (e := 0) ha0 (fun z => absurd z.1 (by decide)) hd
      have hdn1 := gx_dm (e := 0) ha0 (fun z => absurd z.1 (by decide)) hdn
      have hI1 := hI.onR hon
      obtain ⟨q, hq, eq⟩ := lw_lt (x >>> (3 &&& 31)) (m := 11) (by decide) (by decide)
      have eq : lw (x >>> (3 &&& 31)) 11 = nI q := eq
      refine z_astore (pc2 := 135) (lv2 := [(6, .ref a0), (5, .int y), (4, .int x), (0, .ref b), (1, .ref o), (2, .ref nn), (3, .int (nI k))]) C1 dL_law_133 (by decide) rfl rfl ?_
      refine z_aload_n (pc2 := 136) C1 dL_law_135 4 rfl rfl rfl ?_
      refine z_aload_n (pc2 := 137) C1 dL_law_136 5 rfl rfl rfl ?_
      refine z_iload (pc2 := 139) C1 dL_law_137 1 rfl rfl ?_
      refine z_iload (pc2 := 141) C1 dL_law_139 2 rfl rfl ?_
      refine z_iconst (pc2 := 142) (v := 3) C1 dL_law_141 (by decide) rfl ?_
      refine z_ishr (pc2 := 143) C1 dL_law_142 rfl ?_
      refine z_bipush (pc2 := 145) (v := 11) C1 dL_law_143 (by decide) rfl ?_
      refine x_ret (rest := [.int y, .ref nn, .ref o]) (st2 := [.int (lw (x >>> ((3 : Int32) &&& 31)) 11), .int y, .ref nn, .ref o]) (pc2 := 148) (cu2 := cu + 240) (su2 := su + 1440) (z_cS C1 kmL_low kk_L_21 (t_low hok1 (n := 11) (by decide)) rfl rfl (Nat.le_of_ble_eq_true rfl) ⟨(Nat.le_of_ble_eq_true rfl), (Nat.le_of_ble_eq_true rfl)⟩ ⟨by show cu + 240 + 0 ≤ 600052; omega, by show su + 1440 + 0 ≤ 7301782; omega⟩ dL_law_145) rfl rfl rfl rfl ?_
      refine z_vec (st2 := [.int (nI q), .int y, .ref nn, .ref o]) (by rw [eq]) ?_
      refine z_cP (rest := []) (pc2 := 151) (cu2 := cu + 270) (su2 := su + 1620) C1 hN kmL_act kk_L_128 (t_act hok1 eo1 en1 hd1 hdn1 hI1 hq) rfl rfl (Nat.le_of_ble_eq_true rfl) ⟨(Nat.le_of_ble_eq_true rfl), (Nat.le_of_ble_eq_true rfl)⟩ ⟨by show cu + 240 + 30 ≤ 600052; omega, by show su + 1440 + 180 ≤ 7301782; omega⟩ dL_law_148 rfl rfl rfl (fun v9 G2 Ω2 hv9 hg2 C2 => ?_)
      obtain ⟨rfl, r, rfl, D2, hI2, h18, htl⟩ := hv9
      refine z_istore (pc2 := 153) (lv2 := [(7, .int r), (6, .ref a0), (5, .int y), (4, .int x), (0, .ref b), (1, .ref o), (2, .ref nn), (3, .int (nI k))]) C2 dL_law_151 (by decide) rfl rfl ?_
      refine z_iload (pc2 := 155) C2 dL_law_153 0 rfl rfl ?_
      refine z_if_ge (tgt := 178) (pc2 := 158) C2 dL_law_155 (by decide) rfl (fun qc => ?_) (fun qc => ?_)
      · skip
        exact z_sub (lv2 := [(0, .ref b), (1, .ref o), (2, .ref nn), (3, .int (nI k)), (4, .int x)]) C2 [4, 5, 6, 7, 3] rfl (z_drop hok ha0 (z_wid (by omega) (by omega) (K2 x D2 Ω2 hI2)))
      · skip
        have hr0 : r < 0 := Int32.not_le.mp qc
        refine z_iload (pc2 := 160) C2 dL_law_158 0 rfl rfl ?_
        refine z_bipush (pc2 := 162) (v := -9) C2 dL_law_160 (by decide) rfl ?_
        refine z_icmp_le (tgt := 178) (pc2 := 165) C2 dL_law_162 (by decide) rfl (fun qc => ?_) (fun qc => ?_)
        · skip
          exact z_sub (lv2 := [(0, .ref b), (1, .ref o), (2, .ref nn), (3, .int (nI k)), (4, .int x)]) C2 [4, 5, 6, 7, 3] rfl (z_drop hok ha0 (z_wid (by omega) (by omega) (K2 x D2 Ω2 hI2)))
        · skip
          have hr9 : -9 < r := Int32.not_le.mp qc
          refine z_aload (pc2 := 167) C2 dL_law_165 1 rfl rfl ?_
          refine z_aload_n (pc2 := 168) C2 dL_law_167 5 rfl rfl rfl ?_
          refine z_aload_n (pc2 := 169) C2 dL_law_168 6 rfl rfl rfl ?_
          have hn1 : ¬ dm (gx _ 0 a0) 2018 1 := fun z => hn0 1 (gx_of (fun y => absurd y.2 (by decide)) z)
          refine z_cP (rest := [.ref a0]) (pc2 := 172) (cu2 := cu + 510) (su2 := su + 3060) C2 hN kmL_tell kk_L_124 (t_tell hok1 eo1 en1 hd1 hdn1 hn1 hI2.1 (fun c hc => (hI2.2 c hc).1)) rfl rfl (Nat.le_of_ble_eq_true rfl) ⟨(Nat.le_of_ble_eq_true rfl), (Nat.le_of_ble_eq_true rfl)⟩ ⟨by show cu + 270 + 240 ≤ 600052; omega, by show su + 1620 + 1440 ≤ 7301782; omega⟩ dL_law_169 rfl rfl rfl (fun v9 G3 Ω3 hv9 hg3 C3 => ?_)
          obtain ⟨a1, rfl, ha1, rfl, hon2⟩ := hv9
          have hrow : ∀ j, j < 64 → xI Ω3 2018 0 j = xI Ω3 2018 1 j := fun j _ => by
            rw [hon2.2.2 j, hon2.1 2018 0 j (fun y => absurd y.2 (by decide)), h18 0 j, hon.2.2 j, htl hr0 hr9, (hon.sr hI.1).tT]
          have hda0 := gx_dm (e := 1) ha1 (fun z => absurd z.2 (show ¬ (0 : Nat) = 1 by decide)) (gx_dn (G := _) (e := 0) (a := a0))
          refine z_cP (rest := []) (pc2 := 175) (cu2 := cu + 510) (su2 := su + 3060) C3 hN kmL_same kk_L_132 (t_same hg3.1 ((gx_ad2 (fun z => absurd z.2 (by decide))).trans gx_ad) gx_ad hda0 gx_dn hrow) rfl rfl (Nat.le_of_ble_eq_true rfl) ⟨(Nat.le_of_ble_eq_true rfl), (Nat.le_of_ble_eq_true rfl)⟩ ⟨by show cu + 510 + 0 ≤ 600052; omega, by show su + 3060 + 0 ≤ 7301782; omega⟩ dL_law_172 rfl rfl rfl (fun v9 G4 Ω4 hv9 hg4 C4 => ?_)
          obtain ⟨rfl, rfl, rfl⟩ := hv9
          refine z_if_eq (tgt := 198) (pc2 := 178) C4 dL_law_175 (by decide) rfl (fun qc => ?_) (fun qc => ?_)
          · skip
            exact absurd qc (by decide)
          · skip
            exact z_sub (lv2 := [(0, .ref b), (1, .ref o), (2, .ref nn), (3, .int (nI k)), (4, .int x)]) C4 [4, 5, 6, 7, 3] rfl (z_drop hok1 ha1 (z_drop hok ha0 (K2 x D2 _ (hI2.onR hon2))))
theorem x_step8 (C : XO) : fX10_step C 8 0 0 = some (.inr xIO, C) := by
  unfold fX10_step
  rw [show eX10_demandIndex C 8 8 = some xIO from cIdx0 (Or.inr (by decide)), if_neg (by simp)]
  rfl
theorem x_make2 (C : XO) : fX10_make C 2 0 0 1 = some (.inr xIO, C) := by
  unfold fX10_make
  rw [show eX10_demandChain C 0 2 = some xIO from cChain0 (Or.inr (by decide)), if_neg (by simp)]
  rfl
theorem x_vote4 (C : XO) : fX10_vote C 0 4 0 0 = some (.inr xIO, C) := by
  have c1 : eX10_demandChain C 0 0 = none := (cChain1 (c := 0) (by decide)).1
  unfold fX10_vote
  rw [if_pos c1, show eX10_demandIndex C 4 4 = some xIO from cIdx0 (Or.inr (by decide)), if_neg (by simp)]
  rfl
theorem x_vote0 {D : XD} {C M : XO} (h : RGD D C M) : fX10_vote C 0 0 0 0 = some (.inr xIA, C) := by
  have c1 : eX10_demandChain C 0 0 = none := (cChain1 (c := 0) (by decide)).1
  have c2 : eX10_demandIndex C 0 4 = none := cIdx1 (k := 0) (n := 4) (by decide) (by decide)
  have c3 : eX10_demandBlock C 0 0 0 = none := (gBlk h (c := 0) (b := 0) (by decide) (by have := (h.NB 0 (by decide)).2.2.1; omega)).1
  unfold fX10_vote
  rw [if_pos c1, if_pos c2, if_pos c3, if_pos c3, if_pos rfl]
  rfl
theorem x_sub24 (C : XO) (a b c d : Int32) : fX10_submit C 0 0 0 0 24 0 a b c d = (.inr xIA, C) := by
  have c1 : eX10_demandChain C 0 0 = none := (cChain1 (c := 0) (by decide)).1
  have c2 : eX10_demandIndex C 0 6 = none := cIdx1 (k := 0) (n := 6) (by decide) (by decide)
  rcases sJ 0 24 0 a b c d with ⟨jm, jn, l3a, l3b, l4a, l4b, -⟩ | ⟨jm, jn⟩
  · exact absurd (show (23 : Int32) < 24 by decide) l4b
  · rw [cSub_eq, if_pos c1, if_pos c2, jn]
theorem x_clm (C : XO) (a b : Int32) : fX10_claim C 0 0 0 0 (-1) a b = (.inr xIO, C) := by
  have c1 : eX10_demandChain C 0 0 = none := (cChain1 (c := 0) (by decide)).1
  have c2 : eX10_demandChain C 0 ((1 : Int32) - 0) = none := (cChain1 (c := 1) (by decide)).1
  rw [cClm_eq, if_pos c1, if_pos c2, cIdx0 (Or.inl (by decide)), if_neg (by simp)]
  rfl
set_option maxRecDepth 20000 in
theorem law_3 {G : XG} {B : XB} (C : XZ G B cL_law RL room_1 8) (hN : XNB B) (hok : XK G) {b L : Nat} {xs : Nat → Int32} (S : XSc G b L xs B) (hL : L ≤ 260) {o nn : Nat} (eo : ad G 10 0 = o) (en : ad G 2017 0 = nn) (hd : dm G 10 0) (hdn : dm G 2017 0) {D : XD} {Ω : XO} (hI : LI D Ω) {cu su : Nat} (hcu : cu + 6100 ≤ 600052) (hsu : su + 36600 ≤ 7301782) (kk : ∀ lv Ω', XW G B 8 320 lv [.int 1] Ω' (cu + 6100) (su + 36600)) : XW G B 8 206 [(0, .ref b), (1, .ref o), (2, .ref nn)] [] Ω cu su := by
  have m2 : hvc false (.inr xIO) (-2) := Or.inr (Or.inl ⟨rfl, rfl⟩)
  have m3 : hvc false (.inr xIA) (-3) := Or.inr (Or.inr (Or.inl ⟨rfl, rfl⟩))
  have v2 : hvc true (.inr xIO) (-2) := Or.inr (Or.inl ⟨rfl, rfl⟩)
  have v3 : hvc true (.inr xIA) (-3) := Or.inr (Or.inr (Or.inl ⟨rfl, rfl⟩))
  refine z_aload_n (pc2 := 207) C dL_law_206 1 rfl rfl rfl ?_
  refine z_aload_n (pc2 := 208) C dL_law_207 2 rfl rfl rfl ?_
  refine z_aload_n (pc2 := 209) C dL_law_208 0 rfl rfl rfl ?_
  refine z_iconst (pc2 := 210) (v := 1) C dL_law_209 (by decide) rfl ?_
  refine z_vec (st2 := [.int (nI 1), .ref b, .ref nn, .ref o]) (by rw [show (1 : Int32) = nI 1 from rfl]) ?_
  refine z_cPS (rest := [.ref nn, .ref o]) (pc2 := 213) (cu2 := cu) (su2 := su) C hN S kmL_cell kk_L_117 (t_cell hok hL (j := 1) (by decide)) rfl rfl (Nat.le_of_ble_eq_true rfl) ⟨(Nat.le_of_ble_eq_true rfl), (Nat.le_of_ble_eq_true rfl)⟩ ⟨by show cu + 0 ≤ 600052; omega, by show su + 0 ≤ 7301782; omega⟩ dL_law_210 rfl rfl rfl (fun v9 G9 Ω9 hv9 hg9 C9 => ?_)
  obtain ⟨rfl, rfl, y, rfl⟩ := hv9
  refine z_cP (rest := []) (pc2 := 216) (cu2 := cu + 6000) (su2 := su + 36000) C hN kmL_asks kk_L_136 (t_asks hok eo en hd hdn hI) rfl rfl (Nat.le_of_ble_eq_true rfl) ⟨(Nat.le_of_ble_eq_true rfl), (Nat.le_of_ble_eq_true rfl)⟩ ⟨by show cu + 6000 ≤ 600052; omega, by show su + 36000 ≤ 7301782; omega⟩ dL_law_213 rfl rfl rfl (fun v9 G8 Ω8 hv9 hg8 C8 => ?_)
  obtain ⟨rfl, rfl, hI8, -⟩ := hv9
  obtain ⟨⟨⟨M, h⟩, hx⟩, hn⟩ := id hI8
  obtain ⟨n1, -⟩ := hn 0 (by decide)
  refine z_if_eq (tgt := 319) (pc2 := 219) C dL_law_216 (by decide) rfl (fun qc => ?_) (fun qc => ?_)
  · skip
    exact absurd qc (by decide)
  · skip
    refine z_aload_n (pc2 := 220) C dL_law_219 1 rfl rfl rfl ?_
    refine z_bipush (pc2 := 222) (v := 8) C dL_law_220 (by decide) rfl ?_
    refine z_iconst (pc2 := 223) (v := 0) C dL_law_222 (by decide) rfl ?_
    refine z_iconst (pc2 := 224) (v := 0) C dL_law_223 (by decide) rfl ?_
    refine x_ret (rest := []) (st2 := [.int (-2)]) (pc2 := 227) (cu2 := cu + 6006) (su2 := su + 36036) (z_cH C hN kmL_steps rfl kk_L_121 (hL_steps hok eo hd (x_step8 Ω8) m2) rfl rfl (Nat.le_of_ble_eq_true rfl) ⟨(Nat.le_of_ble_eq_true rfl), (Nat.le_of_ble_eq_true rfl)⟩ ⟨by show cu + 6000 + 6 ≤ 600052; omega, by show su + 36000 + 36 ≤ 7301782; omega⟩ dL_law_224) rfl rfl rfl rfl ?_
    refine z_bipush (pc2 := 229) (v := -2) C dL_law_227 (by decide) rfl ?_
    refine z_icmp_ne (tgt := 319) (pc2 := 232) C dL_law_229 (by decide) rfl (fun qc => ?_) (fun qc => ?_)
    · skip
      exact absurd (by decide) qc
    · skip
      refine z_aload_n (pc2 := 233) C dL_law_232 1 rfl rfl rfl ?_
      refine z_iconst (pc2 := 234) (v := 2) C dL_law_233 (by decide) rfl ?_
      refine z_iconst (pc2 := 235) (v := 0) C dL_law_234 (by decide) rfl ?_
      refine z_iconst (pc2 := 236) (v := 0) C dL_law_235 (by decide) rfl ?_
      refine z_iconst (pc2 := 237) (v := 1) C dL_law_236 (by decide) rfl ?_
      refine x_ret (rest := []) (st2 := [.int (-2)]) (pc2 := 240) (cu2 := cu + 6012) (su2 := su + 36072) (z_cH C hN kmL_makes rfl kk_L_102 (hL_makes hok eo hd (x_make2 Ω8) m2) rfl rfl (Nat.le_of_ble_eq_true rfl) ⟨(Nat.le_of_ble_eq_true rfl), (Nat.le_of_ble_eq_true rfl)⟩ ⟨by show cu + 6006 + 6 ≤ 600052; omega, by show su + 36036 + 36 ≤ 7301782; omega⟩ dL_law_237) rfl rfl rfl rfl ?_
      refine z_bipush (pc2 := 242) (v := -2) C dL_law_240 (by decide) rfl ?_
      refine z_icmp_ne (tgt := 319) (pc2 := 245) C dL_law_242 (by decide) rfl (fun qc => ?_) (fun qc => ?_)
      · skip
        exact absurd (by decide) qc
      · skip
        refine z_aload_n (pc2 := 246) C dL_law_245 1 rfl rfl rfl ?_
        refine z_iconst (pc2 := 247) (v := 0) C dL_law_246 (by decide) rfl ?_
        refine z_iconst (pc2 := 248) (v := 4) C dL_law_247 (by decide) rfl ?_
        refine z_iconst (pc2 := 249) (v := 0) C dL_law_248 (by decide) rfl ?_
        refine z_iconst (pc2 := 250) (v := 0) C dL_law_249 (by decide) rfl ?_
        refine x_ret (rest := []) (st2 := [.int (-2)]) (pc2 := 253) (cu2 := cu + 6020) (su2 := su + 36120) (z_cH C hN kmL_votes rfl kk_L_106 (hL_votes hok eo hd (x_vote4 Ω8) v2) rfl rfl (Nat.le_of_ble_eq_true rfl) ⟨(Nat.le_of_ble_eq_true rfl), (Nat.le_of_ble_eq_true rfl)⟩ ⟨by show cu + 6012 + 8 ≤ 600052; omega, by show su + 36072 + 48 ≤ 7301782; omega⟩ dL_law_250) rfl rfl rfl rfl ?_
        refine z_bipush (pc2 := 255) (v := -2) C dL_law_253 (by decide) rfl ?_
        refine z_icmp_ne (tgt := 319) (pc2 := 258) C dL_law_255 (by decide) rfl (fun qc => ?_) (fun qc => ?_)
        · skip
          exact absurd (by decide) qc
        · skip
          refine z_aload_n (pc2 := 259) C dL_law_258 1 rfl rfl rfl ?_
          refine z_iconst (pc2 := 260) (v := 0) C dL_law_259 (by decide) rfl ?_
          refine z_iconst (pc2 := 261) (v := 0) C dL_law_260 (by decide) rfl ?_
          refine z_iconst (pc2 := 262) (v := 0) C dL_law_261 (by decide) rfl ?_
          refine z_iconst (pc2 := 263) (v := 0) C dL_law_262 (by decide) rfl ?_
          refine x_ret (rest := []) (st2 := [.int (-3)]) (pc2 := 266) (cu2 := cu + 6028) (su2 := su + 36168) (z_cH C hN kmL_votes rfl kk_L_106 (hL_votes hok eo hd (x_vote0 h) v3) rfl rfl (Nat.le_of_ble_eq_true rfl) ⟨(Nat.le_of_ble_eq_true rfl), (Nat.le_of_ble_eq_true rfl)⟩ ⟨by show cu + 6020 + 8 ≤ 600052; omega, by show su + 36120 + 48 ≤ 7301782; omega⟩ dL_law_263) rfl rfl rfl rfl ?_
          refine z_bipush (pc2 := 268) (v := -3) C dL_law_266 (by decide) rfl ?_
          refine z_icmp_ne (tgt := 319) (pc2 := 271) C dL_law_268 (by decide) rfl (fun qc => ?_) (fun qc => ?_)
          · skip
            exact absurd (by decide) qc
          · skip
            refine z_aload_n (pc2 := 272) C dL_law_271 1 rfl rfl rfl ?_
            refine z_iconst (pc2 := 273) (v := 0) C dL_law_272 (by decide) rfl ?_
            refine z_iconst (pc2 := 274) (v := 0) C dL_law_273 (by decide) rfl ?_
            refine z_iconst (pc2 := 275) (v := 0) C dL_law_274 (by decide) rfl ?_
            refine z_bipush (pc2 := 277) (v := 24) C dL_law_275 (by decide) rfl ?_
            refine z_iconst (pc2 := 278) (v := 0) C dL_law_277 (by decide) rfl ?_
            refine z_iconst (pc2 := 279) (v := 1) C dL_law_278 (by decide) rfl ?_
            refine x_ret (rest := []) (st2 := [.int (-3)]) (pc2 := 282) (cu2 := cu + 6038) (su2 := su + 36228) (z_cH C hN kmL_submits rfl kk_L_98 (hL_submits hok eo hd (x_sub24 Ω8 _ _ _ _) m3) rfl rfl (Nat.le_of_ble_eq_true rfl) ⟨(Nat.le_of_ble_eq_true rfl), (Nat.le_of_ble_eq_true rfl)⟩ ⟨by show cu + 6028 + 10 ≤ 600052; omega, by show su + 36168 + 60 ≤ 7301782; omega⟩ dL_law_279) rfl rfl rfl rfl ?_
            refine z_bipush (pc2 := 284) (v := -3) C dL_law_282 (by decide) rfl ?_
            refine z_icmp_ne (tgt := 319) (pc2 := 287) C dL_law_284 (by decide) rfl (fun qc => ?_) (fun qc => ?_)
            · skip
              exact absurd (by decide) qc
            · skip
              refine z_aload_n (pc2 := 288) C dL_law_287 1 rfl rfl rfl ?_
              refine z_iconst (pc2 := 289) (v := 0) C dL_law_288 (by decide) rfl ?_
              refine z_iconst (pc2 := 290) (v := 0) C dL_law_289 (by decide) rfl ?_
              refine z_iconst (pc2 := 291) (v := 0) C dL_law_290 (by decide) rfl ?_
              refine z_iconst (pc2 := 292) (v := -1) C dL_law_291 (by decide) rfl ?_
              refine z_iconst (pc2 := 293) (v := 1) C dL_law_292 (by decide) rfl ?_
              refine x_ret (rest := []) (st2 := [.int (-2)]) (pc2 := 296) (cu2 := cu + 6048) (su2 := su + 36288) (z_cH C hN kmL_claims rfl kk_L_109 (hL_claims hok eo hd (x_clm Ω8 _ _) m2) rfl rfl (Nat.le_of_ble_eq_true rfl) ⟨(Nat.le_of_ble_eq_true rfl), (Nat.le_of_ble_eq_true rfl)⟩ ⟨by show cu + 6038 + 10 ≤ 600052; omega, by show su + 36228 + 60 ≤ 7301782; omega⟩ dL_law_293) rfl rfl rfl rfl ?_
              refine z_bipush (pc2 := 298) (v := -2) C dL_law_296 (by decide) rfl ?_
              refine z_icmp_ne (tgt := 319) (pc2 := 301) C dL_law_298 (by decide) rfl (fun qc => ?_) (fun qc => ?_)
              · skip
                exact absurd (by decide) qc
              · skip
                refine z_aload_n (pc2 := 302) C dL_law_301 1 rfl rfl rfl ?_
                refine z_iconst (pc2 := 303) (v := 0) C dL_law_302 (by decide) rfl ?_
                refine z_aload_n (pc2 := 304) C dL_law_303 2 rfl rfl rfl ?_
                refine z_iconst (pc2 := 305) (v := 0) C dL_law_304 (by decide) rfl ?_
                refine z_ialdn (q := 0) (pc2 := 306) C en hdn dL_law_305 rfl (by decide) (by decide) n1 rfl ?_
                refine z_iconst (pc2 := 307) (v := 0) C dL_law_306 (by decide) rfl ?_
                refine x_ret (rest := []) (st2 := [.int (-2)]) (pc2 := 310) (cu2 := cu + 6052) (su2 := su + 36312) (z_cH C hN kmL_coins rfl kk_L_78 (hL_coins hok eo hd (e_coinsX h (c := 0) (by decide) 0) m2 (fun z => absurd (Sum.inr.inj z) (by decide +kernel))) rfl rfl (Nat.le_of_ble_eq_true rfl) ⟨(Nat.le_of_ble_eq_true rfl), (Nat.le_of_ble_eq_true rfl)⟩ ⟨by show cu + 6048 + 4 ≤ 600052; omega, by show su + 36288 + 24 ≤ 7301782; omega⟩ dL_law_307) rfl rfl rfl rfl ?_
                refine z_bipush (pc2 := 312) (v := -2) C dL_law_310 (by decide) rfl ?_
                refine z_icmp_ne (tgt := 319) (pc2 := 315) C dL_law_312 (by decide) rfl (fun qc => ?_) (fun qc => ?_)
                · skip
                  exact absurd (by decide) qc
                · skip
                  refine z_iconst (pc2 := 316) (v := 1) C dL_law_315 (by decide) rfl ?_
                  refine z_goto (tgt := 320) C dL_law_316 (by decide) ?_
                  exact z_wid (by omega) (by omega) (kk _ _)
