/-- what holds of the class and of the law's own numbers -/
def LI (D : XD) (Ω : XO) : Prop := RP D Ω ∧ ∀ c, c < 2 → xI Ω 2017 0 c = nI (dnb D c) ∧ xI Ω 2017 0 (2 + c) = nI (dnt D c) ∧ (∃ f : Nat, f ≤ dfn D c ∧ xI Ω 2017 0 (4 + c) = nI f) ∧ dnb D c ≤ 21 ∧ dnt D c ≤ 31
theorem coins_T {D : XD} {Ω M : XO} (h : RGD D Ω M) {c b a : Nat} (hc : c < 2) (hb : b < dnb D c) (ha : a < 16) : (xI Ω 13 (24 * c + b) 0 = 0 ∧ ∃ v : Nat, v ≤ 80000 ∧ xI Ω 2011 (24 * c + b) a = nI v ∧ fX10_coins Ω 0 (nI c) (nI b) (nI a) = (.inl (some (.int (nI v))), Ω)) ∨ (xI Ω 13 (24 * c + b) 0 = 1 ∧ fX10_coins Ω 0 (nI c) (nI b) (nI a) = (.inr xIS, Ω)) := by
  obtain ⟨hb2, hg⟩ := blk48 h.NB hc hb
  rcases (h.DR _ hg).1 with hd | hd
  · obtain ⟨u, u1, u2, u3, -⟩ := st_u h hc hb
    have h9 : ∀ n a, a < n → u a ≤ sumN u n := by
      intro n
      induction n with
      | zero => intro a ha; omega
      | succ n ih =>
        intro a ha
        show u a ≤ sumN u n + u n
        by_cases z : a = n
        · rw [z]; omega
        · have := ih a (by omega); omega
    have := h9 16 a ha
    refine Or.inl ⟨hd, u a, by omega, u1 a ha, ?_⟩
    rw [e_coins h hc hb ha, if_pos hd, u1 a ha]
  · refine Or.inr ⟨hd, ?_⟩
    rw [e_coins h hc hb ha, if_neg (by rw [hd]; decide)]
theorem h_coins {G : XG} (hok : XK G) {o : Nat} (eo : ad G 10 0 = o) (hd : dm G 10 0) {D : XD} {Ω M : XO} (h : RGD D Ω M) {c b a : Nat} (hc : c < 2) (hb : b < dnb D c) (ha : a < 16) : (xI Ω 13 (24 * c + b) 0 = 0 ∧ ∃ v : Nat, v ≤ 80000 ∧ XMH G yL_coins cL_coins 5 [(0, 7, 8, 15), (0, 7, 13, 19)] (RM 10 4) [.ref o, .int (nI c), .int (nI b), .int (nI a)] Ω (nI v) Ω) ∨ (xI Ω 13 (24 * c + b) 0 = 1 ∧ XMH G yL_coins cL_coins 5 [(0, 7, 8, 15), (0, 7, 13, 19)] (RM 10 4) [.ref o, .int (nI c), .int (nI b), .int (nI a)] Ω (-4) Ω) := by
  rcases coins_T h hc hb ha with ⟨h1, v, h2, h3, h4⟩ | ⟨h1, h4⟩
  · exact Or.inl ⟨h1, v, h2, hL_coins hok eo hd h4 (Or.inl ⟨_, rfl, rfl⟩) (fun z => by cases z)⟩
  · exact Or.inr ⟨h1, hL_coins hok eo hd h4 (Or.inr (Or.inr (Or.inr ⟨rfl, rfl⟩))) (fun z => absurd (Sum.inr.inj z) (by decide +kernel))⟩
set_option maxRecDepth 20000 in
theorem asks_sum {G : XG} {B : XB} (C : XZ G B cL_asks RL (RM 17 6000) 8) (hN : XNB B) (hok : XK G) {o nn : Nat} (eo : ad G 10 0 = o) (en : ad G 2017 0 = nn) (hd : dm G 10 0) (hdn : dm G 2017 0) {y : Int32} {D : XD} {Ω M : XO} (h : RGD D Ω M) {c b : Nat} (hc : c < 2) (hb : b < dnb D c) (hdr : xI Ω 13 (24 * c + b) 0 = 0) {u : Nat → Nat} (u1 : ∀ a, a < 16 → xI Ω 2011 (24 * c + b) a = nI (u a)) (u3 : sumN u 16 + u 112 = 80000) {c1 s1 : Nat} (hc1 : c1 ≤ 6000) (hs1 : s1 ≤ 36000) (k : XW G B 8 79 [(0, .ref o), (1, .ref nn), (2, .int y), (3, .int (nI c)), (4, .int (nI b)), (5, .int (nI 80000))] [] Ω c1 s1) : ∀ (m a : Nat) (cu su : Nat), a + m = 16 → cu + 4 * m ≤ c1 → su + 24 * m ≤ s1 → XW G B 8 41 [(0, .ref o), (1, .ref nn), (2, .int y), (3, .int (nI c)), (4, .int (nI b)), (5, .int (nI (u 112 + sumN u a))), (6, .int (nI a))] [] Ω cu su := by
  have hmono : ∀ n, n ≤ 16 → sumN u n ≤ sumN u 16 := by
    have h9 : ∀ d n, n + d = 16 → sumN u n ≤ sumN u 16 := by
      intro d
      induction d with
      | zero => intro n hn; rw [show n = 16 by omega]; exact Nat.le_refl _
      | succ d ih =>
        intro n hn
        have h1 := ih (n + 1) (by omega)
        have h2 : sumN u (n + 1) = sumN u n + u n := rfl
        omega
    exact fun n hn => h9 (16 - n) n (by omega)
  intro m
  induction m with
  | zero =>
    intro a cu su h1 h2 h3
    have hbe : a = 16 := by omega
    refine z_iload (pc2 := 43) C dL_asks_41 6 rfl rfl ?_
    refine z_bipush (pc2 := 45) (v := 16) C dL_asks_43 (by decide) rfl ?_
    refine z_icmp_ge (tgt := 79) (pc2 := 48) C dL_asks_45 (by decide) rfl (fun qc => ?_) (fun qc => ?_)
    · skip
      have e9 : nI (u 112 + sumN u a) = nI 80000 := by rw [hbe, Nat.add_comm, u3]
      rw [e9]
      exact z_sub (lv2 := [(0, .ref o), (1, .ref nn), (2, .int y), (3, .int (nI c)), (4, .int (nI b)), (5, .int (nI 80000))]) C [0, 1, 2, 3, 4, 5] rfl (z_wid (by omega) (by omega) k)
    · skip
      exact absurd (show (16 : Int32) ≤ nI a by rw [hbe]; decide) qc
  | succ m ih =>
    intro a cu su h1 h2 h3
    have ha : a < 16 := by omega
    have hle := hmono (a + 1) (by omega)
    have hst : sumN u (a + 1) = sumN u a + u a := rfl
    refine z_iload (pc2 := 43) C dL_asks_41 6 rfl rfl ?_
    refine z_bipush (pc2 := 45) (v := 16) C dL_asks_43 (by decide) rfl ?_
    refine z_icmp_ge (tgt := 79) (pc2 := 48) C dL_asks_45 (by decide) rfl (fun qc => ?_) (fun qc => ?_)
    · skip
      exact absurd qc (nI_ge (b := 16) ha (by decide))
    · skip
      refine z_aload_n (pc2 := 49) C dL_asks_48 0 rfl rfl rfl ?_
      refine z_iload_n (pc2 := 50) C dL_asks_49 3 rfl rfl rfl ?_
      refine z_iload (pc2 := 52) C dL_asks_50 4 rfl rfl ?_
      refine z_iload (pc2 := 54) C dL_asks_52 6 rfl rfl ?_
      refine z_cR (rest := []) (pc2 := 57) (cu2 := cu + 4) (su2 := su + 24) C eo hd (Nat.le_of_ble_eq_true rfl) kmX10_coins rfl kk_L_43 (r_coins hok eo hd h hc hb ha hdr) rfl rfl (Nat.le_of_ble_eq_true rfl) ⟨(Nat.le_of_ble_eq_true rfl), (Nat.le_of_ble_eq_true rfl)⟩ ⟨by show cu + 4 ≤ 6000; omega, by show su + 24 ≤ 36000; omega⟩ dL_asks_54 rfl rfl rfl ?_
      refine z_vec (st2 := [.int (nI (u a))]) (by rw [u1 a ha]) ?_
      refine z_istore (pc2 := 59) (lv2 := [(7, .int (nI (u a))), (0, .ref o), (1, .ref nn), (2, .int y), (3, .int (nI c)), (4, .int (nI b)), (5, .int (nI (u 112 + sumN u a))), (6, .int (nI a))]) C dL_asks_57 (by decide) rfl rfl ?_
      refine z_iload (pc2 := 61) C dL_asks_59 6 rfl rfl ?_
      refine z_iload (pc2 := 63) C dL_asks_61 0 rfl rfl ?_
      refine z_iadd (pc2 := 64) C dL_asks_63 rfl ?_
      refine z_vec (st2 := [.int (nI (u 112 + sumN u (a + 1)))]) (by rw [nI_add, hst, Nat.add_assoc]) ?_
      refine z_istore (pc2 := 66) (lv2 := [(5, .int (nI (u 112 + sumN u (a + 1)))), (7, .int (nI (u a))), (0, .ref o), (1, .ref nn), (2, .int y), (3, .int (nI c)), (4, .int (nI b)), (6, .int (nI a))]) C dL_asks_64 (by decide) rfl rfl ?_
      refine z_iload (pc2 := 68) C dL_asks_66 1 rfl rfl ?_
      refine z_if_ge (tgt := 73) (pc2 := 71) C dL_asks_68 (by decide) rfl (fun qc => ?_) (fun qc => ?_)
      · skip
        refine z_iinc (pc2 := 76) (lv2 := [(6, .int (nI (a + 1))), (5, .int (nI (u 112 + sumN u (a + 1)))), (7, .int (nI (u a))), (0, .ref o), (1, .ref nn), (2, .int y), (3, .int (nI c)), (4, .int (nI b))]) C dL_asks_73 7 rfl (nI_1 a) (by decide) rfl rfl ?_
        refine z_goto (tgt := 41) C dL_asks_76 (by decide) ?_
        exact z_sub (lv2 := [(0, .ref o), (1, .ref nn), (2, .int y), (3, .int (nI c)), (4, .int (nI b)), (5, .int (nI (u 112 + sumN u (a + 1)))), (6, .int (nI (a + 1)))]) C [3, 4, 5, 6, 7, 1, 0] rfl (ih (a + 1) (cu + 4) (su + 24) (by omega) (by omega) (by omega))
      · skip
        exact absurd (nI_le (a := 0) (b := u a) (by omega) (by omega)) qc
set_option maxRecDepth 20000 in
theorem asks_b {G : XG} {B : XB} (C : XZ G B cL_asks RL (RM 17 6000) 8) (hN : XNB B) (hok : XK G) {o nn : Nat} (eo : ad G 10 0 = o) (en : ad G 2017 0 = nn) (hd : dm G 10 0) (hdn : dm G 2017 0) {y : Int32} {D : XD} {Ω : XO} (hI : LI D Ω) {c : Nat} (hc : c < 2) {c1 s1 : Nat} (hc1 : c1 ≤ 6000) (hs1 : s1 ≤ 36000) (k : XW G B 8 149 [(0, .ref o), (1, .ref nn), (2, .int y), (3, .int (nI c))] [] Ω c1 s1) : ∀ (m b : Nat) (cu su : Nat), b + m = dnb D c → cu + 140 * m ≤ c1 → su + 840 * m ≤ s1 → XW G B 8 10 [(0, .ref o), (1, .ref nn), (2, .int y), (3, .int (nI c)), (4, .int (nI b))] [] Ω cu su := by
  obtain ⟨⟨⟨M, h⟩, hx⟩, hn⟩ := hI
  obtain ⟨n1, n2, -, n4, n5⟩ := hn c hc
  intro m
  induction m with
  | zero =>
    intro b cu su h1 h2 h3
    have hbe : b = dnb D c := by omega
    refine z_iload (pc2 := 12) C dL_asks_10 4 rfl rfl ?_
    refine z_aload_n (pc2 := 13) C dL_asks_12 1 rfl rfl rfl ?_
    refine z_iload_n (pc2 := 14) C dL_asks_13 3 rfl rfl rfl ?_
    refine z_ialdn (pc2 := 15) C en hdn dL_asks_14 rfl (show c < 6 by omega) (by decide) n1 rfl ?_
    refine z_icmp_ge (tgt := 149) (pc2 := 18) C dL_asks_15 (by decide) rfl (fun qc => ?_) (fun qc => ?_)
    · skip
      exact z_sub (lv2 := [(0, .ref o), (1, .ref nn), (2, .int y), (3, .int (nI c))]) C [0, 1, 2, 3] rfl (z_wid (by omega) (by omega) k)
    · skip
      exact absurd (nI_le (by omega) (by omega)) qc
  | succ m ih =>
    intro b cu su h1 h2 h3
    have hb : b < dnb D c := by omega
    obtain ⟨us, us1, us2⟩ := hx.1 c hc b hb
    have hbb := h.BB c hc b hb
    have fin : XW G B 8 107 [(0, .ref o), (1, .ref nn), (2, .int y), (3, .int (nI c)), (4, .int (nI b))] [] Ω (cu + 132) (su + 792) := by
      refine z_aload_n (pc2 := 108) C dL_asks_107 0 rfl rfl rfl ?_
      refine z_iload_n (pc2 := 109) C dL_asks_108 3 rfl rfl rfl ?_
      refine z_iload (pc2 := 111) C dL_asks_109 4 rfl rfl ?_
      refine z_cR (rest := []) (pc2 := 114) (cu2 := cu + 132 + 2) (su2 := su + 792 + 12) C eo hd (Nat.le_of_ble_eq_true rfl) kmX10_used rfl kk_L_89 (r_used hok eo hd h hc hb) rfl rfl (Nat.le_of_ble_eq_true rfl) ⟨(Nat.le_of_ble_eq_true rfl), (Nat.le_of_ble_eq_true rfl)⟩ ⟨by show cu + 132 + 2 ≤ 6000; omega, by show su + 792 + 12 ≤ 36000; omega⟩ dL_asks_111 rfl rfl rfl ?_
      refine z_cu (cu2 := cu + 134) (su2 := su + 804) (by omega) (by omega) ?_
      refine z_vec (st2 := [.int (nI us)]) (by rw [us2]) ?_
      refine z_sipush (pc2 := 117) (v := 600) C dL_asks_114 (by decide) rfl ?_
      refine z_icmp_gt (tgt := 141) (pc2 := 120) C dL_asks_117 (by decide) rfl (fun qc => ?_) (fun qc => ?_)
      · skip
        exact absurd (show nI us ≤ 600 from nI_le (a := us) (b := 600) us1 (by decide)) (fun z => by rw [ti_le] at z; rw [ti_lt] at qc; omega)
      · skip
        refine z_aload_n (pc2 := 121) C dL_asks_120 0 rfl rfl rfl ?_
        refine z_iload_n (pc2 := 122) C dL_asks_121 3 rfl rfl rfl ?_
        refine z_iload (pc2 := 124) C dL_asks_122 4 rfl rfl ?_
        refine z_cR (rest := []) (pc2 := 127) (cu2 := cu + 134 + 2) (su2 := su + 804 + 12) C eo hd (Nat.le_of_ble_eq_true rfl) kmX10_used rfl kk_L_89 (r_used hok eo hd h hc hb) rfl rfl (Nat.le_of_ble_eq_true rfl) ⟨(Nat.le_of_ble_eq_true rfl), (Nat.le_of_ble_eq_true rfl)⟩ ⟨by show cu + 134 + 2 ≤ 6000; omega, by show su + 804 + 12 ≤ 36000; omega⟩ dL_asks_124 rfl rfl rfl ?_
        refine z_cu (cu2 := cu + 136) (su2 := su + 816) (by omega) (by omega) ?_
        refine z_vec (st2 := [.int (nI us)]) (by rw [us2]) ?_
        refine z_if_lt (tgt := 141) (pc2 := 130) C dL_asks_127 (by decide) rfl (fun qc => ?_) (fun qc => ?_)
        · skip
          exact absurd qc (nI_nlt0 (by omega))
        · skip
          refine z_aload_n (pc2 := 131) C dL_asks_130 0 rfl rfl rfl ?_
          refine z_iload_n (pc2 := 132) C dL_asks_131 3 rfl rfl rfl ?_
          refine z_iload (pc2 := 134) C dL_asks_132 4 rfl rfl ?_
          refine z_cR (rest := []) (pc2 := 137) (cu2 := cu + 136 + 2) (su2 := su + 816 + 12) C eo hd (Nat.le_of_ble_eq_true rfl) kmX10_base rfl kk_L_92 (r_base hok eo hd h hc hb) rfl rfl (Nat.le_of_ble_eq_true rfl) ⟨(Nat.le_of_ble_eq_true rfl), (Nat.le_of_ble_eq_true rfl)⟩ ⟨by show cu + 136 + 2 ≤ 6000; omega, by show su + 816 + 12 ≤ 36000; omega⟩ dL_asks_134 rfl rfl rfl ?_
          refine z_cu (cu2 := cu + 138) (su2 := su + 828) (by omega) (by omega) ?_
          refine z_iconst (pc2 := 138) (v := 1) C dL_asks_137 (by decide) rfl ?_
          refine z_icmp_ge (tgt := 143) (pc2 := 141) C dL_asks_138 (by decide) rfl (fun qc => ?_) (fun qc => ?_)
          · skip
            refine z_iinc (pc2 := 146) (lv2 := [(4, .int (nI (b + 1))), (0, .ref o), (1, .ref nn), (2, .int y), (3, .int (nI c))]) C dL_asks_143 4 rfl (nI_1 b) (by decide) rfl rfl ?_
            refine z_goto (tgt := 10) C dL_asks_146 (by decide) ?_
            exact z_sub (lv2 := [(0, .ref o), (1, .ref nn), (2, .int y), (3, .int (nI c)), (4, .int (nI (b + 1)))]) C [1, 2, 3, 4, 0] rfl (ih (b + 1) (cu + 138) (su + 828) (by omega) (by omega) (by omega))
          · skip
            exact absurd (show (1 : Int32) ≤ xI Ω 5 (24 * c + b) 0 by rw [ti_le]; exact hbb) qc
    refine z_iload (pc2 := 12) C dL_asks_10 4 rfl rfl ?_
    refine z_aload_n (pc2 := 13) C dL_asks_12 1 rfl rfl rfl ?_
    refine z_iload_n (pc2 := 14) C dL_asks_13 3 rfl rfl rfl ?_
    refine z_ialdn (pc2 := 15) C en hdn dL_asks_14 rfl (show c < 6 by omega) (by decide) n1 rfl ?_
    refine z_icmp_ge (tgt := 149) (pc2 := 18) C dL_asks_15 (by decide) rfl (fun qc => ?_) (fun qc => ?_)
    · skip
      exact absurd qc (nI_ge hb (by omega))
    · skip
      refine z_aload_n (pc2 := 19) C dL_asks_18 0 rfl rfl rfl ?_
      refine z_iload_n (pc2 := 20) C dL_asks_19 3 rfl rfl rfl ?_
      refine z_iload (pc2 := 22) C dL_asks_20 4 rfl rfl ?_
      refine z_iconst (pc2 := 23) (v := 0) C dL_asks_22 (by decide) rfl ?_
      have key : ∀ r : Int32, (0 ≤ r → xI Ω 13 (24 * c + b) 0 = 0) → XW G B 8 26 [(0, .ref o), (1, .ref nn), (2, .int y), (3, .int (nI c)), (4, .int (nI b))] [.int r] Ω (cu + 4) (su + 24) := fun r hr => by
        refine z_if_lt (tgt := 107) (pc2 := 29) C dL_asks_26 (by decide) rfl (fun qc => ?_) (fun qc => ?_)
        · skip
          exact z_wid (by omega) (by omega) fin
        · skip
          have hdr : xI Ω 13 (24 * c + b) 0 = 0 := hr (Int32.not_lt.mp qc)
          obtain ⟨u, u1, u2, u3, -⟩ := st_u h hc hb
          refine z_aload_n (pc2 := 30) C dL_asks_29 0 rfl rfl rfl ?_
          refine z_iload_n (pc2 := 31) C dL_asks_30 3 rfl rfl rfl ?_
          refine z_iload (pc2 := 33) C dL_asks_31 4 rfl rfl ?_
          refine z_cR (rest := []) (pc2 := 36) (cu2 := cu + 4 + 4) (su2 := su + 24 + 24) C eo hd (Nat.le_of_ble_eq_true rfl) kmX10_burned rfl kk_L_81 (r_burned hok eo hd h hc hb hdr) rfl rfl (Nat.le_of_ble_eq_true rfl) ⟨(Nat.le_of_ble_eq_true rfl), (Nat.le_of_ble_eq_true rfl)⟩ ⟨by show cu + 4 + 4 ≤ 6000; omega, by show su + 24 + 24 ≤ 36000; omega⟩ dL_asks_33 rfl rfl rfl ?_
          refine z_cu (cu2 := cu + 8) (su2 := su + 48) (by omega) (by omega) ?_
          refine z_vec (st2 := [.int (nI (u 112 + sumN u 0))]) (by rw [u2, show u 112 + sumN u 0 = u 112 from Nat.add_zero _]) ?_
          refine z_istore (pc2 := 38) (lv2 := [(5, .int (nI (u 112 + sumN u 0))), (0, .ref o), (1, .ref nn), (2, .int y), (3, .int (nI c)), (4, .int (nI b))]) C dL_asks_36 (by decide) rfl rfl ?_
          refine z_iconst (pc2 := 39) (v := 0) C dL_asks_38 (by decide) rfl ?_
          refine z_istore (pc2 := 41) (lv2 := [(6, .int 0), (5, .int (nI (u 112 + sumN u 0))), (0, .ref o), (1, .ref nn), (2, .int y), (3, .int (nI c)), (4, .int (nI b))]) C dL_asks_39 (by decide) rfl rfl ?_
          refine z_sub (lv2 := [(0, .ref o), (1, .ref nn), (2, .int y), (3, .int (nI c)), (4, .int (nI b)), (5, .int (nI (u 112 + sumN u 0))), (6, .int (nI 0))]) C [2, 3, 4, 5, 6, 1, 0] rfl (asks_sum C hN hok eo en hd hdn h hc hb hdr u1 u3 (c1 := cu + 72) (s1 := su + 432) (by omega) (by omega) ?_ 16 0 (cu + 8) (su + 48) rfl (by omega) (by omega))
          refine z_iload (pc2 := 81) C dL_asks_79 5 rfl rfl ?_
          refine z_ldc (pc2 := 83) C kc_L_84 dL_asks_81 rfl ?_
          refine z_icmp_ne (tgt := 105) (pc2 := 86) C dL_asks_83 (by decide) rfl (fun qc => ?_) (fun qc => ?_)
          · skip
            exact absurd rfl qc
          · skip
            refine z_aload_n (pc2 := 87) C dL_asks_86 0 rfl rfl rfl ?_
            refine z_iload_n (pc2 := 88) C dL_asks_87 3 rfl rfl rfl ?_
            refine z_iload (pc2 := 90) C dL_asks_88 4 rfl rfl ?_
            refine z_iload_n (pc2 := 91) C dL_asks_90 2 rfl rfl rfl ?_
            refine z_iload (pc2 := 93) C dL_asks_91 4 rfl rfl ?_
            refine z_ishr (pc2 := 94) C dL_asks_93 rfl ?_
            refine z_bipush (pc2 := 96) (v := 16) C dL_asks_94 (by decide) rfl ?_
            refine x_ret (rest := [.int (nI b), .int (nI c), .ref o]) (st2 := [.int (lw (y >>> (((nI b) : Int32) &&& 31)) 16), .int (nI b), .int (nI c), .ref o]) (pc2 := 99) (cu2 := cu + 72) (su2 := su + 432) (z_cS C kmL_low kk_L_21 (t_low hok (n := 16) (by decide)) rfl rfl (Nat.le_of_ble_eq_true rfl) ⟨(Nat.le_of_ble_eq_true rfl), (Nat.le_of_ble_eq_true rfl)⟩ ⟨by show cu + 72 + 0 ≤ 6000; omega, by show su + 432 + 0 ≤ 36000; omega⟩ dL_asks_96) rfl rfl rfl rfl ?_
            obtain ⟨ka, hka, eka⟩ := lw_lt (y >>> (nI b &&& 31)) (m := 16) (by decide) (by decide)
            have eka : lw (y >>> (nI b &&& 31)) 16 = nI ka := eka
            refine z_vec (st2 := [.int (nI ka), .int (nI b), .int (nI c), .ref o]) (by rw [eka]) ?_
            refine z_cP (rest := []) (pc2 := 102) (cu2 := cu + 128) (su2 := su + 768) C hN kmL_proved kk_L_85 (t_proved hok eo hd h hc hb hka hdr) rfl rfl (Nat.le_of_ble_eq_true rfl) ⟨(Nat.le_of_ble_eq_true rfl), (Nat.le_of_ble_eq_true rfl)⟩ ⟨by show cu + 72 + 56 ≤ 6000; omega, by show su + 432 + 336 ≤ 36000; omega⟩ dL_asks_99 rfl rfl rfl (fun v G' Ω' hv hg' C' => ?_)
            obtain ⟨rfl, rfl, rfl⟩ := hv
            refine z_if_ne (tgt := 107) (pc2 := 105) C' dL_asks_102 (by decide) rfl (fun qc => ?_) (fun qc => ?_)
            · skip
              exact z_sub (lv2 := [(0, .ref o), (1, .ref nn), (2, .int y), (3, .int (nI c)), (4, .int (nI b))]) C' [0, 1, 2, 3, 4] rfl (z_wid (by omega) (by omega) fin)
            · skip
              exact absurd qc (by decide)
      rcases h_coins hok eo hd h hc hb (show 0 < 16 by decide) with ⟨hdr, v, hv, hM⟩ | ⟨hdr, hM⟩
      · exact x_ret (rest := []) (st2 := [.int (nI v)]) (pc2 := 26) (cu2 := cu + 4) (su2 := su + 24) (z_cH C hN kmL_coins rfl kk_L_78 hM rfl rfl (Nat.le_of_ble_eq_true rfl) ⟨(Nat.le_of_ble_eq_true rfl), (Nat.le_of_ble_eq_true rfl)⟩ ⟨by show cu + 4 ≤ 6000; omega, by show su + 24 ≤ 36000; omega⟩ dL_asks_23) rfl rfl rfl rfl (key (nI v) (fun _ => hdr))
      · exact x_ret (rest := []) (st2 := [.int (-4)]) (pc2 := 26) (cu2 := cu + 4) (su2 := su + 24) (z_cH C hN kmL_coins rfl kk_L_78 hM rfl rfl (Nat.le_of_ble_eq_true rfl) ⟨(Nat.le_of_ble_eq_true rfl), (Nat.le_of_ble_eq_true rfl)⟩ ⟨by show cu + 4 ≤ 6000; omega, by show su + 24 ≤ 36000; omega⟩ dL_asks_23) rfl rfl rfl rfl (key (-4) (fun z => absurd z (by decide)))
