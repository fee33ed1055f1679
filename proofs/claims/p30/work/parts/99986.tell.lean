/-- a world that is another one but for the row e -/
def onR (e : Nat) (Ω Ω' : XO) (row : Nat → Int32) : Prop := (∀ k i j, ¬ (k = 2018 ∧ i = e) → xI Ω' k i j = xI Ω k i j) ∧ (∀ k i j, xL Ω' k i j = xL Ω k i j) ∧ ∀ j, xI Ω' 2018 e j = row j
def wr (r : Nat → Int32) (i : Nat) (v : Int32) : Nat → Int32 := fun j => if j = i then v else r j
theorem onR.up {e : Nat} {Ω Ω' : XO} {row : Nat → Int32} (h : onR e Ω Ω' row) (q : Nat) (v : Int32) : onR e Ω (uI Ω' 2018 e q v) (wr row q v) := by
  refine ⟨fun k i j hk => ?_, fun k i j => by rw [L_uI]; exact h.2.1 k i j, fun j => ?_⟩
  · rw [I_uI, if_neg (fun z => hk ⟨z.1, z.2.1⟩)]
    exact h.1 k i j hk
  · rw [I_uI]
    show _ = if j = q then v else row j
    by_cases z : j = q
    · rw [if_pos ⟨rfl, rfl, z⟩, if_pos z]
    · rw [if_neg (fun y => z y.2.2), if_neg z]
      exact h.2.2 j
theorem cky_18 {k : Nat} (h : cky k = true) : k ≠ 2018 ∧ k ≠ 2017 := by
  constructor
  · rintro rfl
    exact absurd h (by decide)
  · rintro rfl
    exact absurd h (by decide)
theorem onR.rg {e : Nat} {Ω Ω' : XO} {row : Nat → Int32} (h : onR e Ω Ω' row) {D : XD} {M : XO} (hM : RGD D Ω M) : RGD D Ω' M := hM.mv (fun k hk _ i j => h.1 k i j (fun z => (cky_18 hk).1 z.1)) (fun k _ _ i j => h.2.1 k i j) (fun _ _ _ _ _ => rfl) (fun _ _ _ _ _ => rfl)
theorem onR.rp {e : Nat} {Ω Ω' : XO} {row : Nat → Int32} (h : onR e Ω Ω' row) {D : XD} (hr : RP D Ω) : RP D Ω' := hr.mv (fun k i j hk => h.1 k i j (fun z => (cky_18 hk).1 z.1)) h.2.1
theorem onR.sr {e : Nat} {Ω Ω' : XO} {row : Nat → Int32} (h : onR e Ω Ω' row) {D : XD} (hr : RP D Ω) : SR D Ω Ω' := by
  obtain ⟨⟨M, hM⟩, -⟩ := hr
  exact ⟨⟨M, hM, onR.rg h hM⟩, fun k i j hk => h.1 k i j (fun z => by omega)⟩
/-! what tell tells -/
def rdR (C : XO) (c b : Nat) : Int32 := xI C 12 (24 * c + b) 0 + (if xI C 14 (24 * c + b) 0 = 0 then 0 else 2000000)
def tlB (C : XO) (c : Nat) : Nat → (Nat → Int32) → Nat → Int32
  | 0, r => r
  | n + 1, r => wr (tlB C c n r) (26 * c + n) (rdR C c n)
def tlS (C : XO) (c : Nat) : Nat → (Nat → Int32) → Nat → Int32
  | 0, r => r
  | n + 1, r => wr (tlS C c n r) (54 + 4 * c + n) (fX8_stakeNow C (4 * c + n))
def tlH (D : XD) (C : XO) (c : Nat) (r : Nat → Int32) : Nat → Int32 := tlS C c 4 (wr (wr (wr (tlB C c (dnb D c) r) (26 * c + 24) (fX1_countWaiting C c)) (26 * c + 25) (xI C 0 (fX1_headBlock C c) 0)) (52 + c) (nI (dfn D c)))
def tl (D : XD) (C : XO) : Nat → Int32 := tlH D C 1 (tlH D C 0 (fun _ => 0))
theorem SR.tB {D : XD} {C C' : XO} (h : SR D C C') (c : Nat) : ∀ (n : Nat) (r : Nat → Int32), tlB C' c n r = tlB C c n r := by
  intro n
  induction n with
  | zero => exact fun _ => rfl
  | succ n ih =>
    intro r
    have e : rdR C' c n = rdR C c n := by
      unfold rdR
      rw [h.2 12 _ _ (Or.inl rfl), h.2 14 _ _ (Or.inr (Or.inl rfl))]
    rw [tlB, tlB, ih, e]
theorem SR.tS {D : XD} {C C' : XO} (h : SR D C C') (c : Nat) : ∀ (n : Nat) (r : Nat → Int32), tlS C' c n r = tlS C c n r := by
  intro n
  induction n with
  | zero => exact fun _ => rfl
  | succ n ih =>
    intro r
    rw [tlS, tlS, ih, h.stake]
theorem SR.tC {D : XD} {C C' : XO} (h : SR D C C') {c : Nat} (hc : c < 2) (r : Nat → Int32) : tlH D C' c r = tlH D C c r := by
  unfold tlH
  rw [h.tS, h.tB, h.pool hc, h.head hc]
theorem SR.tT {D : XD} {C C' : XO} (h : SR D C C') : tl D C' = tl D C := by
  show tlH D C' 1 (tlH D C' 0 (fun _ => 0)) = tlH D C 1 (tlH D C 0 (fun _ => 0))
  rw [h.tC (by decide), h.tC (by decide)]
theorem i26 (q c b : Nat) : nI q * nI c + nI b = nI (q * c + b) := by rw [nI_mul, nI_add]
theorem tell_b {G' : XG} {B : XB} (C : XZ G' B cL_tell RL (RM 9 240) 5) (hok : XK G') {o nn a e : Nat} (eo : ad G' 10 0 = o) (en : ad G' 2017 0 = nn) (ea : ad G' 2018 e = a) (hd : dm G' 10 0) (hdn : dm G' 2017 0) (hda : dm G' 2018 e) {D : XD} {Ω : XO} (hr : RP D Ω) {c : Nat} (hc : c < 2) (hnb : xI Ω 2017 0 c = nI (dnb D c)) {row : Nat → Int32} {c1 s1 : Nat} (hc1 : c1 ≤ 240) (hs1 : s1 ≤ 1440) (k : ∀ Ω2, onR e Ω Ω2 (tlB Ω c (dnb D c) row) → XW G' B 5 69 [(0, .ref o), (1, .ref nn), (2, .ref a), (3, .int (nI c)), (4, .int (nI (dnb D c)))] [] Ω2 c1 s1) : ∀ (m b : Nat) (Ω1 : XO) (cu su : Nat), b + m = dnb D c → cu + 4 * m ≤ c1 → su + 24 * m ≤ s1 → onR e Ω Ω1 (tlB Ω c b row) → XW G' B 5 15 [(0, .ref o), (1, .ref nn), (2, .ref a), (3, .int (nI c)), (4, .int (nI b))] [] Ω1 cu su := by
  obtain ⟨⟨M, hM⟩, hx⟩ := id hr
  have hnb4 := (hM.NB c hc).2.2.2
  intro m
  induction m with
  | zero =>
    intro b Ω1 cu su h1 h2 h3 h4
    have hbe : b = dnb D c := by omega
    refine z_iload (pc2 := 17) C dL_tell_15 4 rfl rfl ?_
    refine z_aload_n (pc2 := 18) C dL_tell_17 1 rfl rfl rfl ?_
    refine z_iload_n (pc2 := 19) C dL_tell_18 3 rfl rfl rfl ?_
    refine z_ialdn (pc2 := 20) C en hdn dL_tell_19 rfl (show c < 6 by omega) (by decide) ((h4.1 2017 0 c (by omega)).trans hnb) rfl ?_
    refine z_icmp_ge (tgt := 69) (pc2 := 23) C dL_tell_20 (by decide) rfl (fun qc => ?_) (fun qc => ?_)
    · skip
      rw [hbe] at h4 ⊢
      exact z_sub (lv2 := [(0, .ref o), (1, .ref nn), (2, .ref a), (3, .int (nI c)), (4, .int (nI (dnb D c)))]) C [0, 1, 2, 3, 4] rfl (z_wid (by omega) (by omega) (k Ω1 h4))
    · skip
      exact absurd (nI_le (by omega) (by omega)) qc
  | succ m ih =>
    intro b Ω1 cu su h1 h2 h3 h4
    have hb : b < dnb D c := by omega
    have hM1 := h4.rg hM
    refine z_iload (pc2 := 17) C dL_tell_15 4 rfl rfl ?_
    refine z_aload_n (pc2 := 18) C dL_tell_17 1 rfl rfl rfl ?_
    refine z_iload_n (pc2 := 19) C dL_tell_18 3 rfl rfl rfl ?_
    refine z_ialdn (pc2 := 20) C en hdn dL_tell_19 rfl (show c < 6 by omega) (by decide) ((h4.1 2017 0 c (by omega)).trans hnb) rfl ?_
    refine z_icmp_ge (tgt := 69) (pc2 := 23) C dL_tell_20 (by decide) rfl (fun qc => ?_) (fun qc => ?_)
    · skip
      exact absurd qc (nI_ge hb (by omega))
    · skip
      refine z_iload (pc2 := 25) C dL_tell_23 4 rfl rfl ?_
      refine z_bipush (pc2 := 27) (v := 24) C dL_tell_25 (by decide) rfl ?_
      refine z_icmp_ge (tgt := 69) (pc2 := 30) C dL_tell_27 (by decide) rfl (fun qc => ?_) (fun qc => ?_)
      · skip
        exact absurd qc (nI_ge (b := 24) (by omega) (by decide))
      · skip
        refine z_aload_n (pc2 := 31) C dL_tell_30 2 rfl rfl rfl ?_
        refine z_bipush (pc2 := 33) (v := 26) C dL_tell_31 (by decide) rfl ?_
        refine z_iload_n (pc2 := 34) C dL_tell_33 3 rfl rfl rfl ?_
        refine z_imul (pc2 := 35) C dL_tell_34 rfl ?_
        refine z_iload (pc2 := 37) C dL_tell_35 4 rfl rfl ?_
        refine z_iadd (pc2 := 38) C dL_tell_37 rfl ?_
        refine z_vec (st2 := [.int (nI (26 * c + b)), .ref a]) (by rw [show (26 : Int32) = nI 26 from rfl, i26]) ?_
        refine z_aload_n (pc2 := 39) C dL_tell_38 0 rfl rfl rfl ?_
        refine z_iload_n (pc2 := 40) C dL_tell_39 3 rfl rfl rfl ?_
        refine z_iload (pc2 := 42) C dL_tell_40 4 rfl rfl ?_
        refine z_cR (rest := [.int (nI (26 * c + b)), .ref a]) (pc2 := 45) (cu2 := cu + 2) (su2 := su + 12) C eo hd (Nat.le_of_ble_eq_true rfl) kmX10_root rfl kk_L_46 (r_root hok eo hd hM1 hc hb) rfl rfl (Nat.le_of_ble_eq_true rfl) ⟨(Nat.le_of_ble_eq_true rfl), (Nat.le_of_ble_eq_true rfl)⟩ ⟨by show cu + 2 ≤ 240; omega, by show su + 12 ≤ 1440; omega⟩ dL_tell_42 rfl rfl rfl ?_
        refine z_aload_n (pc2 := 46) C dL_tell_45 0 rfl rfl rfl ?_
        refine z_iload_n (pc2 := 47) C dL_tell_46 3 rfl rfl rfl ?_
        refine z_iload (pc2 := 49) C dL_tell_47 4 rfl rfl ?_
        refine z_cR (rest := [.int (xI Ω1 12 (24 * c + b) 0), .int (nI (26 * c + b)), .ref a]) (pc2 := 52) (cu2 := cu + 2 + 2) (su2 := su + 12 + 12) C eo hd (Nat.le_of_ble_eq_true rfl) kmX10_isJustified rfl kk_L_49 (r_just hok eo hd hM1 hc hb) rfl rfl (Nat.le_of_ble_eq_true rfl) ⟨(Nat.le_of_ble_eq_true rfl), (Nat.le_of_ble_eq_true rfl)⟩ ⟨by show cu + 2 + 2 ≤ 240; omega, by show su + 12 + 12 ≤ 1440; omega⟩ dL_tell_49 rfl rfl rfl ?_
        refine z_cu (cu2 := cu + 4) (su2 := su + 24) (by omega) (by omega) ?_
        have fin : ∀ x : Int32, xI Ω1 12 (24 * c + b) 0 + x = rdR Ω c b → XW G' B 5 61 [(0, .ref o), (1, .ref nn), (2, .ref a), (3, .int (nI c)), (4, .int (nI b))] [.int x, .int (xI Ω1 12 (24 * c + b) 0), .int (nI (26 * c + b)), .ref a] Ω1 (cu + 4) (su + 24) := fun x hx9 => by
          refine z_iadd (pc2 := 62) C dL_tell_61 rfl ?_
          refine z_vec (st2 := [.int (rdR Ω c b), .int (nI (26 * c + b)), .ref a]) (by rw [hx9]) ?_
          refine z_iastn (pc2 := 63) C ea hda dL_tell_62 rfl (show 26 * c + b < 64 by omega) (by decide) rfl ?_
          refine z_iinc (pc2 := 66) (lv2 := [(4, .int (nI (b + 1))), (0, .ref o), (1, .ref nn), (2, .ref a), (3, .int (nI c))]) C dL_tell_63 4 rfl (nI_1 b) (by decide) rfl rfl ?_
          refine z_goto (tgt := 15) C dL_tell_66 (by decide) ?_
          exact z_sub (lv2 := [(0, .ref o), (1, .ref nn), (2, .ref a), (3, .int (nI c)), (4, .int (nI (b + 1)))]) C [1, 2, 3, 4, 0] rfl (ih (b + 1) _ (cu + 4) (su + 24) (by omega) (by omega) (by omega) (h4.up _ _))
        have r12 : xI Ω1 12 (24 * c + b) 0 = xI Ω 12 (24 * c + b) 0 := h4.1 _ _ _ (by omega)
        have r14 : xI Ω1 14 (24 * c + b) 0 = xI Ω 14 (24 * c + b) 0 := h4.1 _ _ _ (by omega)
        refine z_if_eq (tgt := 60) (pc2 := 55) C dL_tell_52 (by decide) rfl (fun qc => ?_) (fun qc => ?_)
        · skip
          refine z_iconst (pc2 := 61) (v := 0) C dL_tell_60 (by decide) rfl ?_
          exact fin 0 (by unfold rdR; rw [r12, if_pos (r14.symm.trans qc)])
        · skip
          refine z_ldc (pc2 := 57) C kc_L_53 dL_tell_55 rfl ?_
          refine z_goto (tgt := 61) C dL_tell_57 (by decide) ?_
          exact fin 2000000 (by unfold rdR; rw [r12, if_neg (fun y => qc (r14.trans y))])
theorem tell_s {G' : XG} {B : XB} (C : XZ G' B cL_tell RL (RM 9 240) 5) (hok : XK G') {o nn a e : Nat} (eo : ad G' 10 0 = o) (en : ad G' 2017 0 = nn) (ea : ad G' 2018 e = a) (hd : dm G' 10 0) (hdn : dm G' 2017 0) (hda : dm G' 2018 e) {D : XD} {Ω : XO} (hr : RP D Ω) {c : Nat} (hc : c < 2) {row : Nat → Int32} {c1 s1 : Nat} (hc1 : c1 ≤ 240) (hs1 : s1 ≤ 1440) (k : ∀ Ω2, onR e Ω Ω2 (tlS Ω c 4 row) → XW G' B 5 141 [(0, .ref o), (1, .ref nn), (2, .ref a), (3, .int (nI c))] [] Ω2 c1 s1) : ∀ (m v : Nat) (Ω1 : XO) (cu su : Nat), v + m = 4 → cu + 2 * m ≤ c1 → su + 12 * m ≤ s1 → onR e Ω Ω1 (tlS Ω c v row) → XW G' B 5 111 [(0, .ref o), (1, .ref nn), (2, .ref a), (3, .int (nI c)), (4, .int (nI v))] [] Ω1 cu su := by
  obtain ⟨⟨M, hM⟩, hx⟩ := id hr
  intro m
  induction m with
  | zero =>
    intro v Ω1 cu su h1 h2 h3 h4
    have hbe : v = 4 := by omega
    refine z_iload (pc2 := 113) C dL_tell_111 4 rfl rfl ?_
    refine z_iconst (pc2 := 114) (v := 4) C dL_tell_113 (by decide) rfl ?_
    refine z_icmp_ge (tgt := 141) (pc2 := 117) C dL_tell_114 (by decide) rfl (fun qc => ?_) (fun qc => ?_)
    · skip
      rw [hbe] at h4
      exact z_sub (lv2 := [(0, .ref o), (1, .ref nn), (2, .ref a), (3, .int (nI c))]) C [0, 1, 2, 3] rfl (z_wid (by omega) (by omega) (k Ω1 h4))
    · skip
      exact absurd (show (4 : Int32) ≤ nI v by rw [hbe]; decide) qc
  | succ m ih =>
    intro v Ω1 cu su h1 h2 h3 h4
    have hv : v < 4 := by omega
    have hM1 := h4.rg hM
    refine z_iload (pc2 := 113) C dL_tell_111 4 rfl rfl ?_
    refine z_iconst (pc2 := 114) (v := 4) C dL_tell_113 (by decide) rfl ?_
    refine z_icmp_ge (tgt := 141) (pc2 := 117) C dL_tell_114 (by decide) rfl (fun qc => ?_) (fun qc => ?_)
    · skip
      exact absurd qc (nI_ge (b := 4) hv (by decide))
    · skip
      refine z_aload_n (pc2 := 118) C dL_tell_117 2 rfl rfl rfl ?_
      refine z_bipush (pc2 := 120) (v := 54) C dL_tell_118 (by decide) rfl ?_
      refine z_iconst (pc2 := 121) (v := 4) C dL_tell_120 (by decide) rfl ?_
      refine z_iload_n (pc2 := 122) C dL_tell_121 3 rfl rfl rfl ?_
      refine z_imul (pc2 := 123) C dL_tell_122 rfl ?_
      refine z_iadd (pc2 := 124) C dL_tell_123 rfl ?_
      refine z_iload (pc2 := 126) C dL_tell_124 4 rfl rfl ?_
      refine z_iadd (pc2 := 127) C dL_tell_126 rfl ?_
      refine z_vec (st2 := [.int (nI (54 + 4 * c + v)), .ref a]) (by rw [show (54 : Int32) = nI 54 from rfl, show (4 : Int32) = nI 4 from rfl, nI_mul, nI_add, nI_add]) ?_
      refine z_aload_n (pc2 := 128) C dL_tell_127 0 rfl rfl rfl ?_
      refine z_iload_n (pc2 := 129) C dL_tell_128 3 rfl rfl rfl ?_
      refine z_iload (pc2 := 131) C dL_tell_129 4 rfl rfl ?_
      refine z_cR (rest := [.int (nI (54 + 4 * c + v)), .ref a]) (pc2 := 134) (cu2 := cu + 2) (su2 := su + 12) C eo hd (Nat.le_of_ble_eq_true rfl) kmX10_stake rfl kk_L_64 (r_stake hok eo hd hM1 hc hv) rfl rfl (Nat.le_of_ble_eq_true rfl) ⟨(Nat.le_of_ble_eq_true rfl), (Nat.le_of_ble_eq_true rfl)⟩ ⟨by show cu + 2 ≤ 240; omega, by show su + 12 ≤ 1440; omega⟩ dL_tell_131 rfl rfl rfl ?_
      refine z_vec (st2 := [.int (fX8_stakeNow Ω (4 * c + v)), .int (nI (54 + 4 * c + v)), .ref a]) (by rw [(h4.sr hr).stake]) ?_
      refine z_iastn (pc2 := 135) C ea hda dL_tell_134 rfl (show 54 + 4 * c + v < 64 by omega) (by decide) rfl ?_
      refine z_iinc (pc2 := 138) (lv2 := [(4, .int (nI (v + 1))), (0, .ref o), (1, .ref nn), (2, .ref a), (3, .int (nI c))]) C dL_tell_135 4 rfl (nI_1 v) (by decide) rfl rfl ?_
      refine z_goto (tgt := 111) C dL_tell_138 (by decide) ?_
      exact z_sub (lv2 := [(0, .ref o), (1, .ref nn), (2, .ref a), (3, .int (nI c)), (4, .int (nI (v + 1)))]) C [1, 2, 3, 4, 0] rfl (ih (v + 1) _ (cu + 2) (su + 12) (by omega) (by omega) (by omega) (h4.up _ _))
theorem tell_c {G' : XG} {B : XB} (C : XZ G' B cL_tell RL (RM 9 240) 5) (hok : XK G') {o nn a e : Nat} (eo : ad G' 10 0 = o) (en : ad G' 2017 0 = nn) (ea : ad G' 2018 e = a) (hd : dm G' 10 0) (hdn : dm G' 2017 0) (hda : dm G' 2018 e) {D : XD} {Ω : XO} (hr : RP D Ω) {c : Nat} (hc : c < 2) (hnb : xI Ω 2017 0 c = nI (dnb D c)) {row : Nat → Int32} {cu su : Nat} (hcu : cu + 107 ≤ 240) (hsu : su + 642 ≤ 1440) {Ω1 : XO} (h4 : onR e Ω Ω1 row) (k : ∀ Ω2, onR e Ω Ω2 (tlH D Ω c row) → XW G' B 5 141 [(0, .ref o), (1, .ref nn), (2, .ref a), (3, .int (nI c))] [] Ω2 (cu + 107) (su + 642)) : XW G' B 5 12 [(0, .ref o), (1, .ref nn), (2, .ref a), (3, .int (nI c))] [] Ω1 cu su := by
  obtain ⟨⟨M, hM⟩, hx⟩ := id hr
  have hnb4 := (hM.NB c hc).2.2.2
  refine z_iconst (pc2 := 13) (v := 0) C dL_tell_12 (by decide) rfl ?_
  refine z_istore (pc2 := 15) (lv2 := [(4, .int 0), (0, .ref o), (1, .ref nn), (2, .ref a), (3, .int (nI c))]) C dL_tell_13 (by decide) rfl rfl ?_
  refine z_sub (lv2 := [(0, .ref o), (1, .ref nn), (2, .ref a), (3, .int (nI c)), (4, .int (nI 0))]) C [1, 2, 3, 4, 0] rfl (tell_b C hok eo en ea hd hdn hda hr hc hnb (row := row) (c1 := cu + 96) (s1 := su + 576) (by omega) (by omega) (fun Ω2 h5 => ?_) (dnb D c) 0 Ω1 cu su (by omega) (by omega) (by omega) h4)
  have hM2 := h5.rg hM
  refine z_aload_n (pc2 := 70) C dL_tell_69 2 rfl rfl rfl ?_
  refine z_bipush (pc2 := 72) (v := 26) C dL_tell_70 (by decide) rfl ?_
  refine z_iload_n (pc2 := 73) C dL_tell_72 3 rfl rfl rfl ?_
  refine z_imul (pc2 := 74) C dL_tell_73 rfl ?_
  refine z_bipush (pc2 := 76) (v := 24) C dL_tell_74 (by decide) rfl ?_
  refine z_iadd (pc2 := 77) C dL_tell_76 rfl ?_
  refine z_vec (st2 := [.int (nI (26 * c + 24)), .ref a]) (by rw [show (26 : Int32) = nI 26 from rfl, show (24 : Int32) = nI 24 from rfl, i26]) ?_
  refine z_aload_n (pc2 := 78) C dL_tell_77 0 rfl rfl rfl ?_
  refine z_iload_n (pc2 := 79) C dL_tell_78 3 rfl rfl rfl ?_
  refine z_cR (rest := [.int (nI (26 * c + 24)), .ref a]) (pc2 := 82) (cu2 := cu + 96 + 1) (su2 := su + 576 + 6) C eo hd (Nat.le_of_ble_eq_true rfl) kmX10_pool rfl kk_L_54 (r_pool hok eo hd hM2 hc) rfl rfl (Nat.le_of_ble_eq_true rfl) ⟨(Nat.le_of_ble_eq_true rfl), (Nat.le_of_ble_eq_true rfl)⟩ ⟨by show cu + 96 + 1 ≤ 240; omega, by show su + 576 + 6 ≤ 1440; omega⟩ dL_tell_79 rfl rfl rfl ?_
  refine z_cu (cu2 := cu + 97) (su2 := su + 582) (by omega) (by omega) ?_
  refine z_vec (st2 := [.int (fX1_countWaiting Ω c), .int (nI (26 * c + 24)), .ref a]) (by rw [(h5.sr hr).pool hc]) ?_
  refine z_iastn (pc2 := 83) C ea hda dL_tell_82 rfl (show 26 * c + 24 < 64 by omega) (by decide) rfl ?_
  have h6 := h5.up (26 * c + 24) (fX1_countWaiting Ω c)
  revert h6
  generalize uI Ω2 2018 e (26 * c + 24) (fX1_countWaiting Ω c) = Ω3
  intro h6
  have hM3 := h6.rg hM
  refine z_aload_n (pc2 := 84) C dL_tell_83 2 rfl rfl rfl ?_
  refine z_bipush (pc2 := 86) (v := 26) C dL_tell_84 (by decide) rfl ?_
  refine z_iload_n (pc2 := 87) C dL_tell_86 3 rfl rfl rfl ?_
  refine z_imul (pc2 := 88) C dL_tell_87 rfl ?_
  refine z_bipush (pc2 := 90) (v := 25) C dL_tell_88 (by decide) rfl ?_
  refine z_iadd (pc2 := 91) C dL_tell_90 rfl ?_
  refine z_vec (st2 := [.int (nI (26 * c + 25)), .ref a]) (by rw [show (26 : Int32) = nI 26 from rfl, show (25 : Int32) = nI 25 from rfl, i26]) ?_
  refine z_aload_n (pc2 := 92) C dL_tell_91 0 rfl rfl rfl ?_
  refine z_iload_n (pc2 := 93) C dL_tell_92 3 rfl rfl rfl ?_
  refine z_cR (rest := [.int (nI (26 * c + 25)), .ref a]) (pc2 := 96) (cu2 := cu + 97 + 1) (su2 := su + 582 + 6) C eo hd (Nat.le_of_ble_eq_true rfl) kmX10_head rfl kk_L_58 (r_head hok eo hd hM3 hc) rfl rfl (Nat.le_of_ble_eq_true rfl) ⟨(Nat.le_of_ble_eq_true rfl), (Nat.le_of_ble_eq_true rfl)⟩ ⟨by show cu + 97 + 1 ≤ 240; omega, by show su + 582 + 6 ≤ 1440; omega⟩ dL_tell_93 rfl rfl rfl ?_
  refine z_cu (cu2 := cu + 98) (su2 := su + 588) (by omega) (by omega) ?_
  refine z_vec (st2 := [.int (xI Ω 0 (fX1_headBlock Ω c) 0), .int (nI (26 * c + 25)), .ref a]) (by rw [(h6.sr hr).head hc]) ?_
  refine z_iastn (pc2 := 97) C ea hda dL_tell_96 rfl (show 26 * c + 25 < 64 by omega) (by decide) rfl ?_
  have h7 := h6.up (26 * c + 25) (xI Ω 0 (fX1_headBlock Ω c) 0)
  revert h7
  generalize uI Ω3 2018 e (26 * c + 25) (xI Ω 0 (fX1_headBlock Ω c) 0) = Ω4
  intro h7
  have hM4 := h7.rg hM
  refine z_aload_n (pc2 := 98) C dL_tell_97 2 rfl rfl rfl ?_
  refine z_bipush (pc2 := 100) (v := 52) C dL_tell_98 (by decide) rfl ?_
  refine z_iload_n (pc2 := 101) C dL_tell_100 3 rfl rfl rfl ?_
  refine z_iadd (pc2 := 102) C dL_tell_101 rfl ?_
  refine z_vec (st2 := [.int (nI (52 + c)), .ref a]) (by rw [show (52 : Int32) = nI 52 from rfl, nI_add]) ?_
  refine z_aload_n (pc2 := 103) C dL_tell_102 0 rfl rfl rfl ?_
  refine z_iload_n (pc2 := 104) C dL_tell_103 3 rfl rfl rfl ?_
  refine z_cR (rest := [.int (nI (52 + c)), .ref a]) (pc2 := 107) (cu2 := cu + 98 + 1) (su2 := su + 588 + 6) C eo hd (Nat.le_of_ble_eq_true rfl) kmX10_lastFinal rfl kk_L_61 (r_last hok eo hd hM4 hc) rfl rfl (Nat.le_of_ble_eq_true rfl) ⟨(Nat.le_of_ble_eq_true rfl), (Nat.le_of_ble_eq_true rfl)⟩ ⟨by show cu + 98 + 1 ≤ 240; omega, by show su + 588 + 6 ≤ 1440; omega⟩ dL_tell_104 rfl rfl rfl ?_
  refine z_cu (cu2 := cu + 99) (su2 := su + 594) (by omega) (by omega) ?_
  refine z_iastn (pc2 := 108) C ea hda dL_tell_107 rfl (show 52 + c < 64 by omega) (by decide) rfl ?_
  refine z_iconst (pc2 := 109) (v := 0) C dL_tell_108 (by decide) rfl ?_
  refine z_istore (pc2 := 111) (lv2 := [(4, .int 0), (0, .ref o), (1, .ref nn), (2, .ref a), (3, .int (nI c))]) C dL_tell_109 (by decide) rfl rfl ?_
  exact z_sub (lv2 := [(0, .ref o), (1, .ref nn), (2, .ref a), (3, .int (nI c)), (4, .int (nI 0))]) C [1, 2, 3, 4, 0] rfl (tell_s C hok eo en ea hd hdn hda hr hc (c1 := cu + 107) (s1 := su + 642) (by omega) (by omega) k 4 0 _ (cu + 99) (su + 594) (by omega) (by omega) (by omega) (h7.up (52 + c) (nI (dfn D c))))
theorem zr_on (Ω : XO) (e : Nat) : onR e Ω (zr Ω e) (fun _ => 0) := by
  refine ⟨fun k i j hk => ?_, fun _ _ _ => rfl, fun _ => zr_0⟩
  by_cases h : k = 2018
  · subst h
    exact zr_I2 (fun z => hk ⟨rfl, z⟩)
  · exact zr_I h
set_option maxRecDepth 20000 in
theorem t_tell {G : XG} (hok : XK G) {o nn : Nat} (eo : ad G 10 0 = o) (en : ad G 2017 0 = nn) (hd : dm G 10 0) (hdn : dm G 2017 0) {e : Nat} (hn : ¬ dm G 2018 e) {D : XD} {Ω : XO} (hr : RP D Ω) (hnb : ∀ c, c < 2 → xI Ω 2017 0 c = nI (dnb D c)) : PM G yL_tell cL_tell 5 (some (FieldType.array FieldType.int)) (RM 9 240) [.ref o, .ref nn] Ω (fun v G' Ω' => ∃ a, v = .ref a ∧ a ∉ gL G ∧ G' = gx G e a ∧ onR e Ω Ω' (tl D Ω)) := by
  refine p_start (lv := [(0, .ref o), (1, .ref nn)]) (own := RL) hok (by decide +kernel) rfl (Nat.le_of_ble_eq_true rfl) rfl (fun B C hN E => ?_)
  refine z_bipush (pc2 := 2) (v := 64) C dL_tell_0 (by decide) rfl ?_
  refine z_new64 (pc2 := 4) (cu2 := 1) (su2 := 64) C hn dL_tell_2 (Nat.le_of_ble_eq_true rfl) (Nat.le_of_ble_eq_true rfl) rfl rfl rfl (fun a hg ha => ?_)
  have C' := C.gs hg
  have hok' : XK (gx G e a) := hg.1
  have eo' : ad (gx G e a) 10 0 = o := (gx_ad3 (by decide)).trans eo
  have en' : ad (gx G e a) 2017 0 = nn := (gx_ad3 (by decide)).trans en
  have ea' : ad (gx G e a) 2018 e = a := gx_ad
  have hd' : dm (gx G e a) 10 0 := gx_dm ha (fun z => absurd z.1 (by decide)) hd
  have hdn' : dm (gx G e a) 2017 0 := gx_dm ha (fun z => absurd z.1 (by decide)) hdn
  have hda' : dm (gx G e a) 2018 e := gx_dn
  refine z_astore_n (pc2 := 5) (lv2 := [(2, .ref a), (0, .ref o), (1, .ref nn)]) C' dL_tell_4 rfl (by decide) rfl rfl ?_
  refine z_iconst (pc2 := 6) (v := 0) C' dL_tell_5 rfl rfl ?_
  refine z_istore_n (pc2 := 7) (lv2 := [(3, .int 0), (2, .ref a), (0, .ref o), (1, .ref nn)]) C' dL_tell_6 rfl (by decide) rfl rfl ?_
  refine z_iload_n (pc2 := 8) C' dL_tell_7 0 rfl rfl rfl ?_
  refine z_iconst (pc2 := 9) (v := 2) C' dL_tell_8 rfl rfl ?_
  refine z_icmp_ge (tgt := 147) (pc2 := 12) C' dL_tell_9 (by decide) rfl (fun qc => absurd qc (by decide)) (fun _ => ?_)
  refine z_sub (lv2 := [(0, .ref o), (1, .ref nn), (2, .ref a), (3, .int (nI 0))]) C' [2, 3, 1, 0] rfl (tell_c C' hok' eo' en' ea' hd' hdn' hda' hr (c := 0) (by decide) (hnb 0 (by decide)) (cu := 1) (su := 64) (by decide) (by decide) (zr_on Ω e) (fun Ω2 h2 => ?_))
  refine z_iinc (pc2 := 144) (lv2 := [(3, .int (nI 1)), (0, .ref o), (1, .ref nn), (2, .ref a)]) C' dL_tell_141 3 rfl (nI_1 0) (by decide) rfl rfl ?_
  refine z_goto (tgt := 7) C' dL_tell_144 (by decide) ?_
  refine z_iload_n (pc2 := 8) C' dL_tell_7 0 rfl rfl rfl ?_
  refine z_iconst (pc2 := 9) (v := 2) C' dL_tell_8 rfl rfl ?_
  refine z_icmp_ge (tgt := 147) (pc2 := 12) C' dL_tell_9 (by decide) rfl (fun qc => absurd qc (by decide)) (fun _ => ?_)
  refine z_sub (lv2 := [(0, .ref o), (1, .ref nn), (2, .ref a), (3, .int (nI 1))]) C' [1, 2, 3, 0] rfl (tell_c C' hok' eo' en' ea' hd' hdn' hda' hr (c := 1) (by decide) (hnb 1 (by decide)) (cu := 108) (su := 706) (by decide) (by decide) h2 (fun Ω3 h3 => ?_))
  refine z_iinc (pc2 := 144) (lv2 := [(3, .int (nI 2)), (0, .ref o), (1, .ref nn), (2, .ref a)]) C' dL_tell_141 3 rfl (nI_1 1) (by decide) rfl rfl ?_
  refine z_goto (tgt := 7) C' dL_tell_144 (by decide) ?_
  refine z_iload_n (pc2 := 8) C' dL_tell_7 0 rfl rfl rfl ?_
  refine z_iconst (pc2 := 9) (v := 2) C' dL_tell_8 rfl rfl ?_
  refine z_icmp_ge (tgt := 147) (pc2 := 12) C' dL_tell_9 (by decide) rfl (fun _ => ?_) (fun qc => absurd (show (2 : Int32) ≤ nI 2 by decide) qc)
  refine z_aload_n (pc2 := 148) C' dL_tell_147 3 rfl rfl rfl ?_
  exact p_areturn C' E hg dL_tell_148 rfl (Nat.le_of_ble_eq_true rfl) (Nat.le_of_ble_eq_true rfl) ⟨a, rfl, ha, rfl, h3⟩
