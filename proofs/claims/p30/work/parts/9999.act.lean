theorem SR.note {D : XD} {Ω C' : XO} (h : SR D Ω C') (q : Nat) (v : Int32) : SR D Ω (uI C' 2017 0 q v) := by
  obtain ⟨⟨M, h1, h2⟩, h3⟩ := h
  refine ⟨⟨M, h1, h2.mv (fun k hk _ i j => I_ne (cky_18 hk).2) (fun k _ _ i j => by rw [L_uI]) (fun _ _ _ _ _ => rfl) (fun _ _ _ _ _ => rfl)⟩, fun k i j hk => ?_⟩
  rw [I_ne (by omega)]
  exact h3 k i j hk
theorem RP.note {D : XD} {C' : XO} (h : RP D C') (q : Nat) (v : Int32) : RP D (uI C' 2017 0 q v) := h.mv (fun k i j hk => I_ne (cky_18 hk).2) (fun k i j => by rw [L_uI])
/-- nothing new to note -/
theorem LI.same {D : XD} {Ω C' : XO} (h : LI D Ω) (hr : RP D C') (hk : KL Ω C') {q : Nat} {v : Int32} (hv : xI Ω 2017 0 q = v) : LI D (uI C' 2017 0 q v) := by
  refine h.keep (hr.note q v) (fun k i j hk2 => ?_)
  rcases hk2 with rfl | rfl
  · rw [I_uI]
    by_cases z : (2017 : Nat) = 2017 ∧ i = 0 ∧ j = q
    · rw [if_pos z, z.2.1, z.2.2, hv]
    · rw [if_neg z]
      exact hk 2017 i j (Or.inl rfl)
  · rw [I_ne (by decide)]
    exact hk 2018 i j (Or.inr rfl)
theorem LI.plus {D : XD} {Ω C' : XO} (h : LI D Ω) {c : Nat} (hc : c < 2) (hr : RP (dPlus D c) C') (hk : KL Ω C') (hb : dnt D c ≤ 30) : LI (dPlus D c) (uI C' 2017 0 (2 + c) (nI (dnt D c + 1))) := by
  refine ⟨hr.note _ _, fun c' hc' => ?_⟩
  obtain ⟨n1, n2, ⟨f, f1, f2⟩, n4, n5⟩ := h.2 c' hc'
  have dn : dnt (dPlus D c) c' = if c' = c then dnt D c' + 1 else dnt D c' := rfl
  refine ⟨?_, ?_, ⟨f, f1, ?_⟩, n4, ?_⟩
  · rw [I_uI, if_neg (fun z => by omega)]
    exact (hk 2017 _ _ (Or.inl rfl)).trans n1
  · rw [dn, I_uI]
    by_cases z : c' = c
    · rw [if_pos z, if_pos ⟨rfl, rfl, by rw [z]⟩, z]
    · rw [if_neg z, if_neg (fun y => by omega)]
      exact (hk 2017 _ _ (Or.inl rfl)).trans n2
  · rw [I_uI, if_neg (fun z => by omega)]
    exact (hk 2017 _ _ (Or.inl rfl)).trans f2
  · rw [dn]
    by_cases z : c' = c
    · rw [if_pos z, z]; omega
    · rw [if_neg z]; exact n5
theorem LI.make {D : XD} {Ω C' : XO} (h : LI D Ω) {c p : Nat} (hc : c < 2) (hr : RP (mkD D c p) C') (hk : KL Ω C') (hb : dnb D c ≤ 20) : LI (mkD D c p) (uI C' 2017 0 c (nI (dnb D c + 1))) := by
  refine ⟨hr.note _ _, fun c' hc' => ?_⟩
  obtain ⟨n1, n2, ⟨f, f1, f2⟩, n4, n5⟩ := h.2 c' hc'
  have dn : dnb (mkD D c p) c' = if c' = c then dnb D c + 1 else dnb D c' := rfl
  refine ⟨?_, ?_, ⟨f, f1, ?_⟩, ?_, n5⟩
  · rw [dn, I_uI]
    by_cases z : c' = c
    · rw [if_pos z, if_pos ⟨rfl, rfl, z⟩]
    · rw [if_neg z, if_neg (fun y => by omega)]
      exact (hk 2017 _ _ (Or.inl rfl)).trans n1
  · rw [I_uI, if_neg (fun z => by omega)]
    exact (hk 2017 _ _ (Or.inl rfl)).trans n2
  · rw [I_uI, if_neg (fun z => by omega)]
    exact (hk 2017 _ _ (Or.inl rfl)).trans f2
  · rw [dn]
    by_cases z : c' = c
    · rw [if_pos z]; omega
    · rw [if_neg z]; exact n4
theorem LI.move {D : XD} {Ω C' : XO} (h : LI D Ω) {c m : Nat} (hr : RP (dMove D c m) C') (hk : KL Ω C') (hm : dfn D c ≤ m) : LI (dMove D c m) C' := by
  refine ⟨hr, fun c' hc' => ?_⟩
  obtain ⟨n1, n2, ⟨f, f1, f2⟩, n4⟩ := h.2 c' hc'
  have dn : dfn (dMove D c m) c' = if c' = c then m else dfn D c' := rfl
  refine ⟨(hk 2017 _ _ (Or.inl rfl)).trans n1, (hk 2017 _ _ (Or.inl rfl)).trans n2, ⟨f, ?_, (hk 2017 _ _ (Or.inl rfl)).trans f2⟩, n4⟩
  rw [dn]
  by_cases z : c' = c
  · rw [if_pos z]
    rw [z] at f1
    omega
  · rw [if_neg z]
    exact f1
/-- what an act leaves -/
def ActP (D : XD) (Ω : XO) (r : Int32) (Ω' : XO) : Prop := ∃ D', LI D' Ω' ∧ (∀ e j, xI Ω' 2018 e j = xI Ω 2018 e j) ∧ (r < 0 → -9 < r → tl D' Ω' = tl D Ω)
theorem nI_p0 {n : Nat} (h : n < 2147483648) : ¬ nI n < 0 := nI_nlt0 h
/-- what the answer of submit or claim comes to -/
theorem act_sub {D : XD} {Ω C' : XO} (hI : LI D Ω) {c : Nat} (hc : c < 2) (hnt : dnt D c ≤ 30) {T : Option Value ⊕ String} {D' : XD} (hk : KL Ω C') (hr : RP D' C') (hcs : (okT T ∧ C' = Ω ∧ D' = D) ∨ (T = .inl (some (.int (-1))) ∧ D' = D ∧ SR D Ω C') ∨ (∃ c', c' < 2 ∧ nI c = nI c' ∧ dnt D c' < 40 ∧ T = .inl (some (.int (nI (dnt D c')))) ∧ D' = dPlus D c')) : ∃ r, hvc false T r ∧ ((r < 0 ∧ ActP D Ω r (uI C' 2017 0 (2 + c) (nI (dnt D c) + 0))) ∨ (¬ r < 0 ∧ ActP D Ω r (uI C' 2017 0 (2 + c) (nI (dnt D c) + 1)))) := by
  obtain ⟨-, n2, -, -, -⟩ := hI.2 c hc
  have k18 : ∀ v, ∀ e j, xI (uI C' 2017 0 (2 + c) v) 2018 e j = xI Ω 2018 e j := fun v e j => by rw [I_ne (by decide)]; exact hk 2018 e j (Or.inr rfl)
  have ref : ∀ r : Int32, D' = D → SR D Ω C' → ActP D Ω r (uI C' 2017 0 (2 + c) (nI (dnt D c) + 0)) := fun r e hs => by
    subst e
    refine ⟨D', ?_, k18 _, fun _ _ => (hs.note _ _).tT⟩
    rw [Int32.add_zero]
    exact hI.same hr hk n2
  rcases hcs with ⟨hT, h1, h2⟩ | ⟨hT, h2, h3⟩ | ⟨c', hc', e, h4, hT, h5⟩
  · have hs : SR D Ω C' := by rw [h1]; exact SR.rf hI.1
    rcases hT with hT | hT | hT
    · exact ⟨_, Or.inr (Or.inl ⟨hT, rfl⟩), Or.inl ⟨by decide, ref _ h2 hs⟩⟩
    · exact ⟨_, Or.inr (Or.inr (Or.inl ⟨hT, rfl⟩)), Or.inl ⟨by decide, ref _ h2 hs⟩⟩
    · exact ⟨_, Or.inr (Or.inr (Or.inr ⟨hT, rfl⟩)), Or.inl ⟨by decide, ref _ h2 hs⟩⟩
  · exact ⟨_, Or.inl ⟨_, hT, rfl⟩, Or.inl ⟨by decide, ref _ h2 h3⟩⟩
  · have hcc : c = c' := (nI_eq (by omega) (by omega)).mp e
    subst hcc
    subst h5
    have hn0 : ¬ nI (dnt D c) < 0 := nI_nlt0 (by omega)
    refine ⟨_, Or.inl ⟨_, hT, rfl⟩, Or.inr ⟨hn0, dPlus D c, ?_, k18 _, fun z => absurd z hn0⟩⟩
    rw [nI_1]
    exact hI.plus hc hr hk hnt
set_option maxRecDepth 20000 in
theorem act_A {G : XG} {B : XB} {Po : Value → XG → XO → Prop} (C : XZ G B cL_act RL (RM 18 30) 10) (hN : XNB B) (hok : XK G) {o nn : Nat} (eo : ad G 10 0 = o) (en : ad G 2017 0 = nn) (hd : dm G 10 0) (hdn : dm G 2017 0) {y kd pv sv nv : Int32} {D : XD} {Ω : XO} (hI : LI D Ω) {c : Nat} (hc : c < 2) (E : XE G Po B (some FieldType.int) (RM 18 30)) (hPo : ∀ (r : Int32) (Ω' : XO), ActP D Ω r Ω' → Po (.int r) G Ω') : XW G B 10 116 [(0, .ref o), (1, .ref nn), (2, .int y), (3, .int kd), (4, .int (nI c)), (5, .int pv), (6, .int sv), (7, .int nv)] [] Ω 0 0 := by
  obtain ⟨⟨⟨M, h⟩, hx⟩, hn⟩ := id hI
  obtain ⟨n1, n2, -, n4, n5⟩ := hn c hc
  obtain ⟨nb1, nb2, nb3, nb4⟩ := h.NB c hc
  have nine : ActP D Ω (-9) Ω := ⟨D, hI, fun _ _ => rfl, fun _ z => absurd z (by decide)⟩
  refine z_aload_n (pc2 := 117) C dL_act_116 1 rfl rfl rfl ?_
  refine z_iconst (pc2 := 118) (v := 2) C dL_act_117 (by decide) rfl ?_
  refine z_iload (pc2 := 120) C dL_act_118 4 rfl rfl ?_
  refine z_iadd (pc2 := 121) C dL_act_120 rfl ?_
  refine z_vec (st2 := [.int (nI (2 + c)), .ref nn]) (by rw [show (2 : Int32) = nI 2 from rfl, nI_add]) ?_
  refine z_ialdn (pc2 := 122) C en hdn dL_act_121 rfl (show 2 + c < 6 by omega) (by decide) n2 rfl ?_
  refine z_bipush (pc2 := 124) (v := 30) C dL_act_122 (by decide) rfl ?_
  refine z_icmp_le (tgt := 130) (pc2 := 127) C dL_act_124 (by decide) rfl (fun qc => ?_) (fun qc => ?_)
  · skip
    have hnt : dnt D c ≤ 30 := by
      have h9 : nI (dnt D c) ≤ nI 30 := qc
      rw [nI_leI (by omega) (by decide)] at h9
      exact h9
    have A2 : ∀ tg : Int32, XW G B 10 195 [(0, .ref o), (1, .ref nn), (2, .int y), (3, .int kd), (4, .int (nI c)), (5, .int pv), (6, .int sv), (7, .int nv)] [.int tg] Ω 0 0 := fun tg => by
      refine z_istore (pc2 := 197) (lv2 := [(8, .int tg), (0, .ref o), (1, .ref nn), (2, .int y), (3, .int kd), (4, .int (nI c)), (5, .int pv), (6, .int sv), (7, .int nv)]) C dL_act_195 (by decide) rfl rfl ?_
      refine z_aload_n (pc2 := 198) C dL_act_197 1 rfl rfl rfl ?_
      refine z_iload (pc2 := 200) C dL_act_198 5 rfl rfl ?_
      refine z_iload (pc2 := 202) C dL_act_200 7 rfl rfl ?_
      refine z_iload (pc2 := 204) C dL_act_202 8 rfl rfl ?_
      refine z_iload (pc2 := 206) C dL_act_204 0 rfl rfl ?_
      refine z_iload_n (pc2 := 207) C dL_act_206 3 rfl rfl rfl ?_
      refine z_bipush (pc2 := 209) (v := 11) C dL_act_207 (by decide) rfl ?_
      refine z_ishr (pc2 := 210) C dL_act_209 rfl ?_
      refine z_sipush (pc2 := 213) (v := 900) C dL_act_210 (by decide) rfl ?_
      refine x_ret (rest := [.int tg, .int nv, .int sv, .int (nI c), .ref o]) (st2 := [.int (lw (y >>> ((11 : Int32) &&& 31)) 900), .int tg, .int nv, .int sv, .int (nI c), .ref o]) (pc2 := 216) (cu2 := 0) (su2 := 0) (z_cS C kmL_low kk_L_21 (t_low hok (n := 900) (by decide)) rfl rfl (Nat.le_of_ble_eq_true rfl) ⟨(Nat.le_of_ble_eq_true rfl), (Nat.le_of_ble_eq_true rfl)⟩ ⟨by show 0 + 0 ≤ 30; omega, by show 0 + 0 ≤ 180; omega⟩ dL_act_213) rfl rfl rfl rfl ?_
      refine z_iload_n (pc2 := 217) C dL_act_216 3 rfl rfl rfl ?_
      obtain ⟨T, C', D', hf, hkl, hrp, hcs⟩ := m_submit hI.1 (nI c) sv nv tg (lw (y >>> ((11 : Int32) &&& 31)) 900) (lw (y >>> (3 &&& 31)) 40) ((20 : Int32) + lw (y >>> (5 &&& 31)) 200) ((12 : Int32) + lw (y >>> (7 &&& 31)) 20) (lw (y >>> (9 &&& 31)) 13)
      obtain ⟨r, hr, hr9⟩ := act_sub hI hc hnt hkl hrp hcs
      refine x_ret (rest := []) (st2 := [.int r]) (pc2 := 220) (cu2 := 10) (su2 := 60) (z_cH C hN kmL_submits rfl kk_L_98 (hL_submits hok eo hd hf hr) rfl rfl (Nat.le_of_ble_eq_true rfl) ⟨(Nat.le_of_ble_eq_true rfl), (Nat.le_of_ble_eq_true rfl)⟩ ⟨(Nat.le_of_ble_eq_true rfl), (Nat.le_of_ble_eq_true rfl)⟩ dL_act_217) rfl rfl rfl rfl ?_
      refine z_istore (pc2 := 222) (lv2 := [(9, .int r), (8, .int tg), (0, .ref o), (1, .ref nn), (2, .int y), (3, .int kd), (4, .int (nI c)), (5, .int pv), (6, .int sv), (7, .int nv)]) C dL_act_220 (by decide) rfl rfl ?_
      refine z_aload_n (pc2 := 223) C dL_act_222 3 rfl rfl rfl ?_
      refine z_iconst (pc2 := 224) (v := 2) C dL_act_223 (by decide) rfl ?_
      refine z_iload (pc2 := 226) C dL_act_224 6 rfl rfl ?_
      refine z_iadd (pc2 := 227) C dL_act_226 rfl ?_
      refine z_dup2 (pc2 := 228) C dL_act_227 rfl rfl rfl ?_
      refine z_vec (st2 := [.int (nI (2 + c)), .ref nn, .int (nI (2 + c)), .ref nn]) (by rw [show (2 : Int32) = nI 2 from rfl, nI_add]) ?_
      have nC : xI C' 2017 0 (2 + c) = nI (dnt D c) := (hkl 2017 _ _ (Or.inl rfl)).trans n2
      refine z_ialdn (pc2 := 229) C en hdn dL_act_228 rfl (show 2 + c < 6 by omega) (by decide) nC rfl ?_
      refine z_iload (pc2 := 231) C dL_act_229 0 rfl rfl ?_
      refine z_if_lt (tgt := 238) (pc2 := 234) C dL_act_231 (by decide) rfl (fun qc => ?_) (fun qc => ?_)
      · skip
        have ha := (hr9.resolve_right (fun z => z.1 qc)).2
        refine z_iconst (pc2 := 239) (v := 0) C dL_act_238 (by decide) rfl ?_
        refine z_iadd (pc2 := 240) C dL_act_239 rfl ?_
        refine z_iastn (pc2 := 241) C en hdn dL_act_240 rfl (show 2 + c < 6 by omega) (by decide) rfl ?_
        refine z_iload (pc2 := 243) C dL_act_241 0 rfl rfl ?_
        exact p_ireturn C E (gs.rf hok) dL_act_243 rfl (by show 10 ≤ 30; omega) (by show 60 ≤ 180; omega) (hPo _ _ ha)
      · skip
        have ha := (hr9.resolve_left (fun z => qc z.1)).2
        refine z_iconst (pc2 := 235) (v := 1) C dL_act_234 (by decide) rfl ?_
        refine z_goto (tgt := 239) C dL_act_235 (by decide) ?_
        refine z_iadd (pc2 := 240) C dL_act_239 rfl ?_
        refine z_iastn (pc2 := 241) C en hdn dL_act_240 rfl (show 2 + c < 6 by omega) (by decide) rfl ?_
        refine z_iload (pc2 := 243) C dL_act_241 0 rfl rfl ?_
        exact p_ireturn C E (gs.rf hok) dL_act_243 rfl (by show 10 ≤ 30; omega) (by show 60 ≤ 180; omega) (hPo _ _ ha)
    refine z_iload_n (pc2 := 131) C dL_act_130 2 rfl rfl rfl ?_
    refine z_bipush (pc2 := 133) (v := 8) C dL_act_131 (by decide) rfl ?_
    refine z_ishr (pc2 := 134) C dL_act_133 rfl ?_
    refine z_iconst (pc2 := 135) (v := 4) C dL_act_134 (by decide) rfl ?_
    refine x_ret (rest := []) (st2 := [.int (lw (y >>> ((8 : Int32) &&& 31)) 4)]) (pc2 := 138) (cu2 := 0) (su2 := 0) (z_cS C kmL_low kk_L_21 (t_low hok (n := 4) (by decide)) rfl rfl (Nat.le_of_ble_eq_true rfl) ⟨(Nat.le_of_ble_eq_true rfl), (Nat.le_of_ble_eq_true rfl)⟩ ⟨by show 0 + 0 ≤ 30; omega, by show 0 + 0 ≤ 180; omega⟩ dL_act_135) rfl rfl rfl rfl ?_
    refine z_if_ne (tgt := 156) (pc2 := 141) C dL_act_138 (by decide) rfl (fun qc => ?_) (fun qc => ?_)
    · skip
      refine z_iload_n (pc2 := 157) C dL_act_156 2 rfl rfl rfl ?_
      refine z_bipush (pc2 := 159) (v := 8) C dL_act_157 (by decide) rfl ?_
      refine z_ishr (pc2 := 160) C dL_act_159 rfl ?_
      refine z_iconst (pc2 := 161) (v := 4) C dL_act_160 (by decide) rfl ?_
      refine x_ret (rest := []) (st2 := [.int (lw (y >>> ((8 : Int32) &&& 31)) 4)]) (pc2 := 164) (cu2 := 0) (su2 := 0) (z_cS C kmL_low kk_L_21 (t_low hok (n := 4) (by decide)) rfl rfl (Nat.le_of_ble_eq_true rfl) ⟨(Nat.le_of_ble_eq_true rfl), (Nat.le_of_ble_eq_true rfl)⟩ ⟨by show 0 + 0 ≤ 30; omega, by show 0 + 0 ≤ 180; omega⟩ dL_act_161) rfl rfl rfl rfl ?_
      refine z_iconst (pc2 := 165) (v := 1) C dL_act_164 (by decide) rfl ?_
      refine z_icmp_ne (tgt := 173) (pc2 := 168) C dL_act_165 (by decide) rfl (fun qc => ?_) (fun qc => ?_)
      · skip
        refine z_iload_n (pc2 := 174) C dL_act_173 2 rfl rfl rfl ?_
        refine z_bipush (pc2 := 176) (v := 10) C dL_act_174 (by decide) rfl ?_
        refine z_ishr (pc2 := 177) C dL_act_176 rfl ?_
        refine z_bipush (pc2 := 179) (v := 17) C dL_act_177 (by decide) rfl ?_
        refine x_ret (rest := []) (st2 := [.int (lw (y >>> ((10 : Int32) &&& 31)) 17)]) (pc2 := 182) (cu2 := 0) (su2 := 0) (z_cS C kmL_low kk_L_21 (t_low hok (n := 17) (by decide)) rfl rfl (Nat.le_of_ble_eq_true rfl) ⟨(Nat.le_of_ble_eq_true rfl), (Nat.le_of_ble_eq_true rfl)⟩ ⟨by show 0 + 0 ≤ 30; omega, by show 0 + 0 ≤ 180; omega⟩ dL_act_179) rfl rfl rfl rfl ?_
        refine z_iload_n (pc2 := 183) C dL_act_182 2 rfl rfl rfl ?_
        refine z_bipush (pc2 := 185) (v := 12) C dL_act_183 (by decide) rfl ?_
        refine z_ishr (pc2 := 186) C dL_act_185 rfl ?_
        refine z_bipush (pc2 := 188) (v := 17) C dL_act_186 (by decide) rfl ?_
        refine x_ret (rest := [.int (lw (y >>> ((10 : Int32) &&& 31)) 17)]) (st2 := [.int (lw (y >>> ((12 : Int32) &&& 31)) 17), .int (lw (y >>> ((10 : Int32) &&& 31)) 17)]) (pc2 := 191) (cu2 := 0) (su2 := 0) (z_cS C kmL_low kk_L_21 (t_low hok (n := 17) (by decide)) rfl rfl (Nat.le_of_ble_eq_true rfl) ⟨(Nat.le_of_ble_eq_true rfl), (Nat.le_of_ble_eq_true rfl)⟩ ⟨by show 0 + 0 ≤ 30; omega, by show 0 + 0 ≤ 180; omega⟩ dL_act_188) rfl rfl rfl rfl ?_
        refine z_bipush (pc2 := 193) (v := 16) C dL_act_191 (by decide) rfl ?_
        refine z_idiv (pc2 := 194) C dL_act_193 (by decide) rfl ?_
        refine z_isub (pc2 := 195) C dL_act_194 rfl ?_
        exact A2 _
      · skip
        refine z_bipush (pc2 := 170) (v := 15) C dL_act_168 (by decide) rfl ?_
        refine z_goto (tgt := 195) C dL_act_170 (by decide) ?_
        exact A2 _
    · skip
      refine z_bipush (pc2 := 143) (v := 16) C dL_act_141 (by decide) rfl ?_
      refine z_iload_n (pc2 := 144) C dL_act_143 2 rfl rfl rfl ?_
      refine z_bipush (pc2 := 146) (v := 10) C dL_act_144 (by decide) rfl ?_
      refine z_ishr (pc2 := 147) C dL_act_146 rfl ?_
      refine z_bipush (pc2 := 149) (v := 8) C dL_act_147 (by decide) rfl ?_
      refine x_ret (rest := [.int 16]) (st2 := [.int (lw (y >>> ((10 : Int32) &&& 31)) 8), .int 16]) (pc2 := 152) (cu2 := 0) (su2 := 0) (z_cS C kmL_low kk_L_21 (t_low hok (n := 8) (by decide)) rfl rfl (Nat.le_of_ble_eq_true rfl) ⟨(Nat.le_of_ble_eq_true rfl), (Nat.le_of_ble_eq_true rfl)⟩ ⟨by show 0 + 0 ≤ 30; omega, by show 0 + 0 ≤ 180; omega⟩ dL_act_149) rfl rfl rfl rfl ?_
      refine z_iadd (pc2 := 153) C dL_act_152 rfl ?_
      refine z_goto (tgt := 195) C dL_act_153 (by decide) ?_
      exact z_sub (lv2 := [(0, .ref o), (1, .ref nn), (2, .int y), (3, .int kd), (4, .int (nI c)), (5, .int pv), (6, .int sv), (7, .int nv)]) C [0, 1, 2, 3, 4, 5, 6, 7] rfl (A2 _)
  · skip
    refine z_bipush (pc2 := 129) (v := -9) C dL_act_127 (by decide) rfl ?_
    exact p_ireturn C E (gs.rf hok) dL_act_129 rfl (by show 0 ≤ 30; omega) (by show 0 ≤ 180; omega) (hPo _ _ nine)
set_option maxRecDepth 20000 in
theorem act_D {G : XG} {B : XB} {Po : Value → XG → XO → Prop} (C : XZ G B cL_act RL (RM 18 30) 10) (hN : XNB B) (hok : XK G) {o nn : Nat} (eo : ad G 10 0 = o) (en : ad G 2017 0 = nn) (hd : dm G 10 0) (hdn : dm G 2017 0) {y kd pv sv nv : Int32} {D : XD} {Ω : XO} (hI : LI D Ω) {c : Nat} (hc : c < 2) (E : XE G Po B (some FieldType.int) (RM 18 30)) (hPo : ∀ (r : Int32) (Ω' : XO), ActP D Ω r Ω' → Po (.int r) G Ω') : XW G B 10 353 [(0, .ref o), (1, .ref nn), (2, .int y), (3, .int kd), (4, .int (nI c)), (5, .int pv), (6, .int sv), (7, .int nv)] [] Ω 0 0 := by
  obtain ⟨⟨⟨M, h⟩, hx⟩, hn⟩ := id hI
  obtain ⟨n1, n2, -, n4, n5⟩ := hn c hc
  obtain ⟨nb1, nb2, nb3, nb4⟩ := h.NB c hc
  have nine : ActP D Ω (-9) Ω := ⟨D, hI, fun _ _ => rfl, fun _ z => absurd z (by decide)⟩
  refine z_aload_n (pc2 := 354) C dL_act_353 1 rfl rfl rfl ?_
  refine z_iconst (pc2 := 355) (v := 2) C dL_act_354 (by decide) rfl ?_
  refine z_iload (pc2 := 357) C dL_act_355 4 rfl rfl ?_
  refine z_iadd (pc2 := 358) C dL_act_357 rfl ?_
  refine z_vec (st2 := [.int (nI (2 + c)), .ref nn]) (by rw [show (2 : Int32) = nI 2 from rfl, nI_add]) ?_
  refine z_ialdn (pc2 := 359) C en hdn dL_act_358 rfl (show 2 + c < 6 by omega) (by decide) n2 rfl ?_
  refine z_bipush (pc2 := 361) (v := 30) C dL_act_359 (by decide) rfl ?_
  refine z_icmp_le (tgt := 367) (pc2 := 364) C dL_act_361 (by decide) rfl (fun qc => ?_) (fun qc => ?_)
  · skip
    have hnt : dnt D c ≤ 30 := by
      have h9 : nI (dnt D c) ≤ nI 30 := qc
      rw [nI_leI (by omega) (by decide)] at h9
      exact h9
    refine z_aload_n (pc2 := 368) C dL_act_367 0 rfl rfl rfl ?_
    refine z_iload (pc2 := 370) C dL_act_368 4 rfl rfl ?_
    refine z_iload (pc2 := 372) C dL_act_370 6 rfl rfl ?_
    refine z_iload (pc2 := 374) C dL_act_372 7 rfl rfl ?_
    refine z_iload_n (pc2 := 375) C dL_act_374 2 rfl rfl rfl ?_
    refine z_iconst (pc2 := 376) (v := 4) C dL_act_375 (by decide) rfl ?_
    refine z_ishr (pc2 := 377) C dL_act_376 rfl ?_
    refine z_aload_n (pc2 := 378) C dL_act_377 1 rfl rfl rfl ?_
    refine z_iconst (pc2 := 379) (v := 3) C dL_act_378 (by decide) rfl ?_
    refine z_iload (pc2 := 381) C dL_act_379 4 rfl rfl ?_
    refine z_isub (pc2 := 382) C dL_act_381 rfl ?_
    obtain ⟨-, -, -, o4, -⟩ := hn (1 - c) (by omega)
    obtain ⟨o1, -⟩ := hn (1 - c) (by omega)
    refine z_vec (st2 := [.int (nI (3 - c)), .ref nn, .int (y >>> ((4 : Int32) &&& 31)), .int nv, .int sv, .int (nI c), .ref o]) (by rw [show (3 : Int32) = nI 3 from rfl, nI_subI (by omega)]) ?_
    refine z_ialdn (v := xI Ω 2017 0 (3 - c)) (pc2 := 383) C en hdn dL_act_382 rfl (show 3 - c < 6 by omega) (by decide) rfl rfl ?_
    have o9 : ∃ k : Nat, k ≤ 31 ∧ xI Ω 2017 0 (3 - c) = nI k := by
      obtain ⟨-, p2, -, -, p5⟩ := hn (1 - c) (by omega)
      exact ⟨_, p5, by rw [show 3 - c = 2 + (1 - c) by omega]; exact p2⟩
    obtain ⟨ko, ko1, ko2⟩ := o9
    refine z_vec (st2 := [.int (nI ko), .int (y >>> ((4 : Int32) &&& 31)), .int nv, .int sv, .int (nI c), .ref o]) (by rw [ko2]) ?_
    refine z_iconst (pc2 := 384) (v := 1) C dL_act_383 (by decide) rfl ?_
    refine z_iadd (pc2 := 385) C dL_act_384 rfl ?_
    refine z_vec (st2 := [.int (nI (ko + 1)), .int (y >>> ((4 : Int32) &&& 31)), .int nv, .int sv, .int (nI c), .ref o]) (by rw [nI_1]) ?_
    refine x_ret (rest := [.int nv, .int sv, .int (nI c), .ref o]) (st2 := [.int (lw (y >>> ((4 : Int32) &&& 31)) (nI (ko + 1))), .int nv, .int sv, .int (nI c), .ref o]) (pc2 := 388) (cu2 := 0) (su2 := 0) (z_cS C kmL_low kk_L_21 (t_low hok (n := (nI (ko + 1))) (nI_ne0 (by omega) (by omega))) rfl rfl (Nat.le_of_ble_eq_true rfl) ⟨(Nat.le_of_ble_eq_true rfl), (Nat.le_of_ble_eq_true rfl)⟩ ⟨by show 0 + 0 ≤ 30; omega, by show 0 + 0 ≤ 180; omega⟩ dL_act_385) rfl rfl rfl rfl ?_
    refine z_iload_n (pc2 := 389) C dL_act_388 2 rfl rfl rfl ?_
    obtain ⟨T, C', D', hf, hkl, hrp, hcs⟩ := m_claim hI.1 (nI c) sv nv ((lw (y >>> ((4 : Int32) &&& 31)) (nI (ko + 1)))) ((12 : Int32) + lw y 20) (lw (y >>> (4 &&& 31)) 12)
    obtain ⟨r, hr, hr9⟩ := act_sub hI hc hnt hkl hrp hcs
    refine x_ret (rest := []) (st2 := [.int r]) (pc2 := 392) (cu2 := 10) (su2 := 60) (z_cH C hN kmL_claims rfl kk_L_109 (hL_claims hok eo hd hf hr) rfl rfl (Nat.le_of_ble_eq_true rfl) ⟨(Nat.le_of_ble_eq_true rfl), (Nat.le_of_ble_eq_true rfl)⟩ ⟨(Nat.le_of_ble_eq_true rfl), (Nat.le_of_ble_eq_true rfl)⟩ dL_act_389) rfl rfl rfl rfl ?_
    refine z_istore (pc2 := 394) (lv2 := [(8, .int r), (0, .ref o), (1, .ref nn), (2, .int y), (3, .int kd), (4, .int (nI c)), (5, .int pv), (6, .int sv), (7, .int nv)]) C dL_act_392 (by decide) rfl rfl ?_
    refine z_aload_n (pc2 := 395) C dL_act_394 2 rfl rfl rfl ?_
    refine z_iconst (pc2 := 396) (v := 2) C dL_act_395 (by decide) rfl ?_
    refine z_iload (pc2 := 398) C dL_act_396 5 rfl rfl ?_
    refine z_iadd (pc2 := 399) C dL_act_398 rfl ?_
    refine z_dup2 (pc2 := 400) C dL_act_399 rfl rfl rfl ?_
    refine z_vec (st2 := [.int (nI (2 + c)), .ref nn, .int (nI (2 + c)), .ref nn]) (by rw [show (2 : Int32) = nI 2 from rfl, nI_add]) ?_
    have nC : xI C' 2017 0 (2 + c) = nI (dnt D c) := (hkl 2017 _ _ (Or.inl rfl)).trans n2
    refine z_ialdn (pc2 := 401) C en hdn dL_act_400 rfl (show 2 + c < 6 by omega) (by decide) nC rfl ?_
    refine z_iload (pc2 := 403) C dL_act_401 0 rfl rfl ?_
    refine z_if_lt (tgt := 410) (pc2 := 406) C dL_act_403 (by decide) rfl (fun qc => ?_) (fun qc => ?_)
    · skip
      have ha := (hr9.resolve_right (fun z => z.1 qc)).2
      refine z_iconst (pc2 := 411) (v := 0) C dL_act_410 (by decide) rfl ?_
      refine z_iadd (pc2 := 412) C dL_act_411 rfl ?_
      refine z_iastn (pc2 := 413) C en hdn dL_act_412 rfl (show 2 + c < 6 by omega) (by decide) rfl ?_
      refine z_iload (pc2 := 415) C dL_act_413 0 rfl rfl ?_
      exact p_ireturn C E (gs.rf hok) dL_act_415 rfl (by show 10 ≤ 30; omega) (by show 60 ≤ 180; omega) (hPo _ _ ha)
    · skip
      have ha := (hr9.resolve_left (fun z => qc z.1)).2
      refine z_iconst (pc2 := 407) (v := 1) C dL_act_406 (by decide) rfl ?_
      refine z_goto (tgt := 411) C dL_act_407 (by decide) ?_
      refine z_iadd (pc2 := 412) C dL_act_411 rfl ?_
      refine z_iastn (pc2 := 413) C en hdn dL_act_412 rfl (show 2 + c < 6 by omega) (by decide) rfl ?_
      refine z_iload (pc2 := 415) C dL_act_413 0 rfl rfl ?_
      exact p_ireturn C E (gs.rf hok) dL_act_415 rfl (by show 10 ≤ 30; omega) (by show 60 ≤ 180; omega) (hPo _ _ ha)
  · skip
    refine z_bipush (pc2 := 366) (v := -9) C dL_act_364 (by decide) rfl ?_
    exact p_ireturn C E (gs.rf hok) dL_act_366 rfl (by show 0 ≤ 30; omega) (by show 0 ≤ 180; omega) (hPo _ _ nine)
set_option maxRecDepth 20000 in
theorem act_B {G : XG} {B : XB} {Po : Value → XG → XO → Prop} (C : XZ G B cL_act RL (RM 18 30) 10) (hN : XNB B) (hok : XK G) {o nn : Nat} (eo : ad G 10 0 = o) (en : ad G 2017 0 = nn) (hd : dm G 10 0) (hdn : dm G 2017 0) {y kd pv sv nv : Int32} {D : XD} {Ω : XO} (hI : LI D Ω) {c : Nat} (hc : c < 2) (E : XE G Po B (some FieldType.int) (RM 18 30)) (hPo : ∀ (r : Int32) (Ω' : XO), ActP D Ω r Ω' → Po (.int r) G Ω') : XW G B 10 244 [(0, .ref o), (1, .ref nn), (2, .int y), (3, .int kd), (4, .int (nI c)), (5, .int pv), (6, .int sv), (7, .int nv)] [] Ω 0 0 := by
  obtain ⟨⟨⟨M, h⟩, hx⟩, hn⟩ := id hI
  obtain ⟨n1, n2, -, n4, n5⟩ := hn c hc
  obtain ⟨nb1, nb2, nb3, nb4⟩ := h.NB c hc
  have nine : ActP D Ω (-9) Ω := ⟨D, hI, fun _ _ => rfl, fun _ z => absurd z (by decide)⟩
  refine z_aload_n (pc2 := 245) C dL_act_244 1 rfl rfl rfl ?_
  refine z_iload (pc2 := 247) C dL_act_245 4 rfl rfl ?_
  refine z_ialdn (pc2 := 248) C en hdn dL_act_247 rfl (show c < 6 by omega) (by decide) n1 rfl ?_
  refine z_bipush (pc2 := 250) (v := 20) C dL_act_248 (by decide) rfl ?_
  refine z_icmp_le (tgt := 256) (pc2 := 253) C dL_act_250 (by decide) rfl (fun qc => ?_) (fun qc => ?_)
  · skip
    have hnb : dnb D c ≤ 20 := by
      have h9 : nI (dnb D c) ≤ nI 20 := qc
      rw [nI_leI (by omega) (by decide)] at h9
      exact h9
    refine z_aload_n (pc2 := 257) C dL_act_256 0 rfl rfl rfl ?_
    refine z_iload (pc2 := 259) C dL_act_257 4 rfl rfl ?_
    refine z_iload (pc2 := 261) C dL_act_259 5 rfl rfl ?_
    refine z_iload_n (pc2 := 262) C dL_act_261 2 rfl rfl rfl ?_
    refine z_bipush (pc2 := 264) (v := 7) C dL_act_262 (by decide) rfl ?_
    refine z_ishr (pc2 := 265) C dL_act_264 rfl ?_
    refine z_bipush (pc2 := 267) (v := 7) C dL_act_265 (by decide) rfl ?_
    refine x_ret (rest := [.int pv, .int (nI c), .ref o]) (st2 := [.int (lw (y >>> ((7 : Int32) &&& 31)) 7), .int pv, .int (nI c), .ref o]) (pc2 := 270) (cu2 := 0) (su2 := 0) (z_cS C kmL_low kk_L_21 (t_low hok (n := 7) (by decide)) rfl rfl (Nat.le_of_ble_eq_true rfl) ⟨(Nat.le_of_ble_eq_true rfl), (Nat.le_of_ble_eq_true rfl)⟩ ⟨by show 0 + 0 ≤ 30; omega, by show 0 + 0 ≤ 180; omega⟩ dL_act_267) rfl rfl rfl rfl ?_
    refine z_iconst (pc2 := 271) (v := 1) C dL_act_270 (by decide) rfl ?_
    refine z_iload_n (pc2 := 272) C dL_act_271 2 rfl rfl rfl ?_
    refine z_bipush (pc2 := 274) (v := 9) C dL_act_272 (by decide) rfl ?_
    refine z_ishr (pc2 := 275) C dL_act_274 rfl ?_
    refine z_bipush (pc2 := 277) (v := 10) C dL_act_275 (by decide) rfl ?_
    refine x_ret (rest := [.int 1, .int (lw (y >>> ((7 : Int32) &&& 31)) 7), .int pv, .int (nI c), .ref o]) (st2 := [.int (lw (y >>> ((9 : Int32) &&& 31)) 10), .int 1, .int (lw (y >>> ((7 : Int32) &&& 31)) 7), .int pv, .int (nI c), .ref o]) (pc2 := 280) (cu2 := 0) (su2 := 0) (z_cS C kmL_low kk_L_21 (t_low hok (n := 10) (by decide)) rfl rfl (Nat.le_of_ble_eq_true rfl) ⟨(Nat.le_of_ble_eq_true rfl), (Nat.le_of_ble_eq_true rfl)⟩ ⟨by show 0 + 0 ≤ 30; omega, by show 0 + 0 ≤ 180; omega⟩ dL_act_277) rfl rfl rfl rfl ?_
    refine z_iadd (pc2 := 281) C dL_act_280 rfl ?_
    obtain ⟨T, C', D', hf, hkl, hrp, hcs⟩ := m_make hI.1 (nI c) pv ((lw (y >>> ((7 : Int32) &&& 31)) 7)) (((1 : Int32) + (lw (y >>> ((9 : Int32) &&& 31)) 10)))
    have k18 : ∀ v, ∀ e j, xI (uI C' 2017 0 c v) 2018 e j = xI Ω 2018 e j := fun v e j => by rw [I_ne (by decide)]; exact hkl 2018 e j (Or.inr rfl)
    have hh9 : ∃ r, hvc false T r ∧ ((r < 0 ∧ ActP D Ω r (uI C' 2017 0 c (nI (dnb D c) + 0))) ∨ (¬ r < 0 ∧ ActP D Ω r (uI C' 2017 0 c (nI (dnb D c) + 1)))) := by
      rcases hcs with ⟨hT, h1, h2⟩ | ⟨c', p, hc', e, hp, h4, hT, h5⟩
      · have rf9 : ∀ r : Int32, ActP D Ω r (uI C' 2017 0 c (nI (dnb D c) + 0)) := fun r => by
          subst h2
          refine ⟨D', ?_, k18 _, fun _ _ => (SR.note (by rw [h1]; exact SR.rf hI.1) _ _).tT⟩
          rw [Int32.add_zero]
          exact hI.same hrp hkl n1
        rcases hT with hT | hT | hT
        · exact ⟨_, Or.inr (Or.inl ⟨hT, rfl⟩), Or.inl ⟨by decide, rf9 _⟩⟩
        · exact ⟨_, Or.inr (Or.inr (Or.inl ⟨hT, rfl⟩)), Or.inl ⟨by decide, rf9 _⟩⟩
        · exact ⟨_, Or.inr (Or.inr (Or.inr ⟨hT, rfl⟩)), Or.inl ⟨by decide, rf9 _⟩⟩
      · have hcc : c = c' := (nI_eq (by omega) (by omega)).mp e
        subst hcc
        subst h5
        have hn0 : ¬ nI (dnb D c) < 0 := nI_nlt0 (by omega)
        refine ⟨_, Or.inl ⟨_, hT, rfl⟩, Or.inr ⟨hn0, mkD D c p, ?_, k18 _, fun z => absurd z hn0⟩⟩
        rw [nI_1]
        exact hI.make hc hrp hkl hnb
    obtain ⟨r, hr, hr9⟩ := hh9
    refine x_ret (rest := []) (st2 := [.int r]) (pc2 := 284) (cu2 := 6) (su2 := 36) (z_cH C hN kmL_makes rfl kk_L_102 (hL_makes hok eo hd hf hr) rfl rfl (Nat.le_of_ble_eq_true rfl) ⟨(Nat.le_of_ble_eq_true rfl), (Nat.le_of_ble_eq_true rfl)⟩ ⟨(Nat.le_of_ble_eq_true rfl), (Nat.le_of_ble_eq_true rfl)⟩ dL_act_281) rfl rfl rfl rfl ?_
    refine z_istore (pc2 := 286) (lv2 := [(8, .int r), (0, .ref o), (1, .ref nn), (2, .int y), (3, .int kd), (4, .int (nI c)), (5, .int pv), (6, .int sv), (7, .int nv)]) C dL_act_284 (by decide) rfl rfl ?_
    refine z_aload_n (pc2 := 287) C dL_act_286 2 rfl rfl rfl ?_
    refine z_iload (pc2 := 289) C dL_act_287 5 rfl rfl ?_
    refine z_dup2 (pc2 := 290) C dL_act_289 rfl rfl rfl ?_
    have nC : xI C' 2017 0 (c) = nI (dnb D c) := (hkl 2017 _ _ (Or.inl rfl)).trans n1
    refine z_ialdn (pc2 := 291) C en hdn dL_act_290 rfl (show c < 6 by omega) (by decide) nC rfl ?_
    refine z_iload (pc2 := 293) C dL_act_291 0 rfl rfl ?_
    refine z_if_lt (tgt := 300) (pc2 := 296) C dL_act_293 (by decide) rfl (fun qc => ?_) (fun qc => ?_)
    · skip
      have ha := (hr9.resolve_right (fun z => z.1 qc)).2
      refine z_iconst (pc2 := 301) (v := 0) C dL_act_300 (by decide) rfl ?_
      refine z_iadd (pc2 := 302) C dL_act_301 rfl ?_
      refine z_iastn (pc2 := 303) C en hdn dL_act_302 rfl (show c < 6 by omega) (by decide) rfl ?_
      refine z_iload (pc2 := 305) C dL_act_303 0 rfl rfl ?_
      exact p_ireturn C E (gs.rf hok) dL_act_305 rfl (by show 6 ≤ 30; omega) (by show 36 ≤ 180; omega) (hPo _ _ ha)
    · skip
      have ha := (hr9.resolve_left (fun z => qc z.1)).2
      refine z_iconst (pc2 := 297) (v := 1) C dL_act_296 (by decide) rfl ?_
      refine z_goto (tgt := 301) C dL_act_297 (by decide) ?_
      refine z_iadd (pc2 := 302) C dL_act_301 rfl ?_
      refine z_iastn (pc2 := 303) C en hdn dL_act_302 rfl (show c < 6 by omega) (by decide) rfl ?_
      refine z_iload (pc2 := 305) C dL_act_303 0 rfl rfl ?_
      exact p_ireturn C E (gs.rf hok) dL_act_305 rfl (by show 6 ≤ 30; omega) (by show 36 ≤ 180; omega) (hPo _ _ ha)
  · skip
    refine z_bipush (pc2 := 255) (v := -9) C dL_act_253 (by decide) rfl ?_
    exact p_ireturn C E (gs.rf hok) dL_act_255 rfl (by show 0 ≤ 30; omega) (by show 0 ≤ 180; omega) (hPo _ _ nine)
set_option maxRecDepth 20000 in
theorem act_C {G : XG} {B : XB} {Po : Value → XG → XO → Prop} (C : XZ G B cL_act RL (RM 18 30) 10) (hN : XNB B) (hok : XK G) {o nn : Nat} (eo : ad G 10 0 = o) (en : ad G 2017 0 = nn) (hd : dm G 10 0) (hdn : dm G 2017 0) {y kd pv sv nv : Int32} {D : XD} {Ω : XO} (hI : LI D Ω) {c : Nat} (hc : c < 2) (E : XE G Po B (some FieldType.int) (RM 18 30)) (hPo : ∀ (r : Int32) (Ω' : XO), ActP D Ω r Ω' → Po (.int r) G Ω') : XW G B 10 306 [(0, .ref o), (1, .ref nn), (2, .int y), (3, .int kd), (4, .int (nI c)), (5, .int pv), (6, .int sv), (7, .int nv)] [] Ω 0 0 := by
  obtain ⟨⟨⟨M, h⟩, hx⟩, hn⟩ := id hI
  obtain ⟨n1, n2, -, n4, n5⟩ := hn c hc
  obtain ⟨nb1, nb2, nb3, nb4⟩ := h.NB c hc
  have nine : ActP D Ω (-9) Ω := ⟨D, hI, fun _ _ => rfl, fun _ z => absurd z (by decide)⟩
  refine z_aload_n (pc2 := 307) C dL_act_306 0 rfl rfl rfl ?_
  refine z_iload (pc2 := 309) C dL_act_307 4 rfl rfl ?_
  refine z_iload_n (pc2 := 310) C dL_act_309 2 rfl rfl rfl ?_
  refine z_iconst (pc2 := 311) (v := 4) C dL_act_310 (by decide) rfl ?_
  refine z_ishr (pc2 := 312) C dL_act_311 rfl ?_
  refine z_iconst (pc2 := 313) (v := 4) C dL_act_312 (by decide) rfl ?_
  refine x_ret (rest := [.int (nI c), .ref o]) (st2 := [.int (lw (y >>> ((4 : Int32) &&& 31)) 4), .int (nI c), .ref o]) (pc2 := 316) (cu2 := 0) (su2 := 0) (z_cS C kmL_low kk_L_21 (t_low hok (n := 4) (by decide)) rfl rfl (Nat.le_of_ble_eq_true rfl) ⟨(Nat.le_of_ble_eq_true rfl), (Nat.le_of_ble_eq_true rfl)⟩ ⟨by show 0 + 0 ≤ 30; omega, by show 0 + 0 ≤ 180; omega⟩ dL_act_313) rfl rfl rfl rfl ?_
  refine z_iload_n (pc2 := 317) C dL_act_316 2 rfl rfl rfl ?_
  refine z_bipush (pc2 := 319) (v := 6) C dL_act_317 (by decide) rfl ?_
  refine z_ishr (pc2 := 320) C dL_act_319 rfl ?_
  refine z_iconst (pc2 := 321) (v := 2) C dL_act_320 (by decide) rfl ?_
  refine x_ret (rest := [.int (lw (y >>> ((4 : Int32) &&& 31)) 4), .int (nI c), .ref o]) (st2 := [.int (lw (y >>> ((6 : Int32) &&& 31)) 2), .int (lw (y >>> ((4 : Int32) &&& 31)) 4), .int (nI c), .ref o]) (pc2 := 324) (cu2 := 0) (su2 := 0) (z_cS C kmL_low kk_L_21 (t_low hok (n := 2) (by decide)) rfl rfl (Nat.le_of_ble_eq_true rfl) ⟨(Nat.le_of_ble_eq_true rfl), (Nat.le_of_ble_eq_true rfl)⟩ ⟨by show 0 + 0 ≤ 30; omega, by show 0 + 0 ≤ 180; omega⟩ dL_act_321) rfl rfl rfl rfl ?_
  have C2 : ∀ src : Int32, XW G B 10 347 [(0, .ref o), (1, .ref nn), (2, .int y), (3, .int kd), (4, .int (nI c)), (5, .int pv), (6, .int sv), (7, .int nv)] [.int src, .int (lw (y >>> ((4 : Int32) &&& 31)) 4), .int (nI c), .ref o] Ω 1 6 := fun src => by
    refine z_iload (pc2 := 349) C dL_act_347 5 rfl rfl ?_
    obtain ⟨T, C', D', hf, hkl, hrp, hcs⟩ := m_vote hI.1 (nI c) ((lw (y >>> ((4 : Int32) &&& 31)) 4)) src pv
    have k18 : ∀ e j, xI C' 2018 e j = xI Ω 2018 e j := fun e j => hkl 2018 e j (Or.inr rfl)
    have hh9 : ∃ r, hvc true T r ∧ ActP D Ω r C' := by
      rcases hcs with ⟨hT, h1, h2⟩ | ⟨c', m, a, hc', e, hm1, hm2, ha, hT, h5⟩
      · have rf9 : ∀ r : Int32, ActP D Ω r C' := fun r => by
          subst h2
          exact ⟨D', hI.keep hrp hkl, k18, fun _ _ => (show SR D' Ω C' by rw [h1]; exact SR.rf hI.1).tT⟩
        rcases hT with hT | hT | hT
        · exact ⟨_, Or.inr (Or.inl ⟨hT, rfl⟩), rf9 _⟩
        · exact ⟨_, Or.inr (Or.inr (Or.inl ⟨hT, rfl⟩)), rf9 _⟩
        · exact ⟨_, Or.inr (Or.inr (Or.inr ⟨hT, rfl⟩)), rf9 _⟩
      · have hcc : c = c' := (nI_eq (by omega) (by omega)).mp e
        subst hcc
        subst h5
        refine ⟨_, Or.inl ⟨_, hT, rfl⟩, dMove D c m, hI.move hrp hkl hm1, k18, fun z => ?_⟩
        exfalso
        rcases ha with rfl | rfl
        · exact absurd z (by decide)
        · exact absurd z (by decide)
    obtain ⟨r, hr, ha⟩ := hh9
    refine x_ret (rest := []) (st2 := [.int r]) (pc2 := 352) (cu2 := 9) (su2 := 54) (z_cH C hN kmL_votes rfl kk_L_106 (hL_votes hok eo hd hf hr) rfl rfl (Nat.le_of_ble_eq_true rfl) ⟨(Nat.le_of_ble_eq_true rfl), (Nat.le_of_ble_eq_true rfl)⟩ ⟨(Nat.le_of_ble_eq_true rfl), (Nat.le_of_ble_eq_true rfl)⟩ dL_act_349) rfl rfl rfl rfl ?_
    exact p_ireturn C E (gs.rf hok) dL_act_352 rfl (by show 9 ≤ 30; omega) (by show 54 ≤ 180; omega) (hPo _ _ ha)
  refine z_if_ne (tgt := 336) (pc2 := 327) C dL_act_324 (by decide) rfl (fun qc => ?_) (fun qc => ?_)
  · skip
    refine z_iload_n (pc2 := 337) C dL_act_336 2 rfl rfl rfl ?_
    refine z_bipush (pc2 := 339) (v := 8) C dL_act_337 (by decide) rfl ?_
    refine z_ishr (pc2 := 340) C dL_act_339 rfl ?_
    refine z_aload_n (pc2 := 341) C dL_act_340 1 rfl rfl rfl ?_
    refine z_iload (pc2 := 343) C dL_act_341 4 rfl rfl ?_
    refine z_ialdn (pc2 := 344) C en hdn dL_act_343 rfl (show c < 6 by omega) (by decide) n1 rfl ?_
    refine x_ret (rest := [.int (lw (y >>> ((4 : Int32) &&& 31)) 4), .int (nI c), .ref o]) (st2 := [.int (lw (y >>> ((8 : Int32) &&& 31)) (nI (dnb D c))), .int (lw (y >>> ((4 : Int32) &&& 31)) 4), .int (nI c), .ref o]) (pc2 := 347) (cu2 := 0) (su2 := 0) (z_cS C kmL_low kk_L_21 (t_low hok (n := (nI (dnb D c))) (nI_ne0 (by omega) (by omega))) rfl rfl (Nat.le_of_ble_eq_true rfl) ⟨(Nat.le_of_ble_eq_true rfl), (Nat.le_of_ble_eq_true rfl)⟩ ⟨by show 0 + 0 ≤ 30; omega, by show 0 + 0 ≤ 180; omega⟩ dL_act_344) rfl rfl rfl rfl ?_
    exact z_wid (by decide) (by decide) (C2 _)
  · skip
    refine z_aload_n (pc2 := 328) C dL_act_327 0 rfl rfl rfl ?_
    refine z_iload (pc2 := 330) C dL_act_328 4 rfl rfl ?_
    refine z_cR (rest := [.int (lw (y >>> ((4 : Int32) &&& 31)) 4), .int (nI c), .ref o]) (pc2 := 333) (cu2 := 0 + 1) (su2 := 0 + 6) C eo hd (Nat.le_of_ble_eq_true rfl) kmX10_lastFinal rfl kk_L_61 (r_last hok eo hd h hc) rfl rfl (Nat.le_of_ble_eq_true rfl) ⟨(Nat.le_of_ble_eq_true rfl), (Nat.le_of_ble_eq_true rfl)⟩ ⟨by show 0 + 1 ≤ 30; omega, by show 0 + 6 ≤ 180; omega⟩ dL_act_330 rfl rfl rfl ?_
    refine z_goto (tgt := 347) C dL_act_333 (by decide) ?_
    exact C2 _
set_option maxRecDepth 20000 in
theorem act_E {G : XG} {B : XB} {Po : Value → XG → XO → Prop} (C : XZ G B cL_act RL (RM 18 30) 10) (hN : XNB B) (hok : XK G) {o nn : Nat} (eo : ad G 10 0 = o) (en : ad G 2017 0 = nn) (hd : dm G 10 0) (hdn : dm G 2017 0) {y kd pv sv nv : Int32} {D : XD} {Ω : XO} (hI : LI D Ω) {c : Nat} (hc : c < 2) (E : XE G Po B (some FieldType.int) (RM 18 30)) (hPo : ∀ (r : Int32) (Ω' : XO), ActP D Ω r Ω' → Po (.int r) G Ω') : XW G B 10 416 [(0, .ref o), (1, .ref nn), (2, .int y), (3, .int kd), (4, .int (nI c)), (5, .int pv), (6, .int sv), (7, .int nv)] [] Ω 0 0 := by
  obtain ⟨⟨⟨M, h⟩, hx⟩, hn⟩ := id hI
  obtain ⟨n1, n2, -, n4, n5⟩ := hn c hc
  obtain ⟨nb1, nb2, nb3, nb4⟩ := h.NB c hc
  have nine : ActP D Ω (-9) Ω := ⟨D, hI, fun _ _ => rfl, fun _ z => absurd z (by decide)⟩
  obtain ⟨v, C', hf, hkl, hrp⟩ := m_prune hI.1 hc
  refine z_aload_n (pc2 := 417) C dL_act_416 0 rfl rfl rfl ?_
  refine z_iload (pc2 := 419) C dL_act_417 4 rfl rfl ?_
  refine z_cR (rest := []) (pc2 := 422) (cu2 := 0 + 1) (su2 := 0 + 6) C eo hd (Nat.le_of_ble_eq_true rfl) kmX10_prune rfl kk_L_113 (r_prune hok eo hd hf) rfl rfl (Nat.le_of_ble_eq_true rfl) ⟨(Nat.le_of_ble_eq_true rfl), (Nat.le_of_ble_eq_true rfl)⟩ ⟨by show 0 + 1 ≤ 30; omega, by show 0 + 6 ≤ 180; omega⟩ dL_act_419 rfl rfl rfl ?_
  refine z_pop (pc2 := 423) C dL_act_422 rfl rfl ?_
  refine z_bipush (pc2 := 425) (v := -9) C dL_act_423 (by decide) rfl ?_
  exact p_ireturn C E (gs.rf hok) dL_act_425 rfl (by show 0 + 1 ≤ 30; omega) (by show 0 + 6 ≤ 180; omega) (hPo _ _ ⟨D, hI.keep hrp hkl, fun e j => hkl 2018 e j (Or.inr rfl), fun _ z => absurd z (by decide)⟩)
set_option maxRecDepth 20000 in
theorem t_act {G : XG} (hok : XK G) {o nn : Nat} (eo : ad G 10 0 = o) (en : ad G 2017 0 = nn) (hd : dm G 10 0) (hdn : dm G 2017 0) {D : XD} {Ω : XO} (hI : LI D Ω) {y : Int32} {q : Nat} (hq : q < 11) : PM G yL_act cL_act 10 (some FieldType.int) (RM 18 30) [.ref o, .ref nn, .int y, .int (nI q)] Ω (fun v G' Ω' => G' = G ∧ ∃ r : Int32, v = .int r ∧ ActP D Ω r Ω') := by
  obtain ⟨c, hc, ec⟩ := lw_lt y (m := 2) (by decide) (by decide)
  have ec : lw y 2 = nI c := ec
  obtain ⟨⟨⟨M, h⟩, hx⟩, hn⟩ := id hI
  obtain ⟨n1, n2, -, n4, n5⟩ := hn c hc
  refine p_start (lv := [(0, .ref o), (1, .ref nn), (2, .int y), (3, .int (nI q))]) (own := RL) hok (by decide +kernel) rfl (Nat.le_of_ble_eq_true rfl) rfl (fun B C hN E => ?_)
  refine z_iload_n (pc2 := 1) C dL_act_0 2 rfl rfl rfl ?_
  refine z_iconst (pc2 := 2) (v := 2) C dL_act_1 (by decide) rfl ?_
  refine x_ret (rest := []) (st2 := [.int (lw y 2)]) (pc2 := 5) (cu2 := 0) (su2 := 0) (z_cS C kmL_low kk_L_21 (t_low hok (n := 2) (by decide)) rfl rfl (Nat.le_of_ble_eq_true rfl) ⟨(Nat.le_of_ble_eq_true rfl), (Nat.le_of_ble_eq_true rfl)⟩ ⟨by show 0 + 0 ≤ 30; omega, by show 0 + 0 ≤ 180; omega⟩ dL_act_2) rfl rfl rfl rfl ?_
  refine z_vec (st2 := [.int (nI c)]) (by rw [ec]) ?_
  refine z_istore (pc2 := 7) (lv2 := [(4, .int (nI c)), (0, .ref o), (1, .ref nn), (2, .int y), (3, .int (nI q))]) C dL_act_5 (by decide) rfl rfl ?_
  refine z_iload_n (pc2 := 8) C dL_act_7 3 rfl rfl rfl ?_
  refine z_iconst (pc2 := 9) (v := 2) C dL_act_8 (by decide) rfl ?_
  refine z_ishr (pc2 := 10) C dL_act_9 rfl ?_
  refine z_iconst (pc2 := 11) (v := 4) C dL_act_10 (by decide) rfl ?_
  refine x_ret (rest := []) (st2 := [.int (lw (y >>> ((2 : Int32) &&& 31)) 4)]) (pc2 := 14) (cu2 := 0) (su2 := 0) (z_cS C kmL_low kk_L_21 (t_low hok (n := 4) (by decide)) rfl rfl (Nat.le_of_ble_eq_true rfl) ⟨(Nat.le_of_ble_eq_true rfl), (Nat.le_of_ble_eq_true rfl)⟩ ⟨by show 0 + 0 ≤ 30; omega, by show 0 + 0 ≤ 180; omega⟩ dL_act_11) rfl rfl rfl rfl ?_
  have J : ∀ pv : Int32, XW G B 10 38 [(0, .ref o), (1, .ref nn), (2, .int y), (3, .int (nI q)), (4, .int (nI c))] [.int pv] Ω 0 0 := fun pv => by
    refine z_istore (pc2 := 40) (lv2 := [(5, .int pv), (0, .ref o), (1, .ref nn), (2, .int y), (3, .int (nI q)), (4, .int (nI c))]) C dL_act_38 (by decide) rfl rfl ?_
    refine z_iload_n (pc2 := 41) C dL_act_40 3 rfl rfl rfl ?_
    refine z_iconst (pc2 := 42) (v := 1) C dL_act_41 (by decide) rfl ?_
    refine z_ishr (pc2 := 43) C dL_act_42 rfl ?_
    refine z_bipush (pc2 := 45) (v := 7) C dL_act_43 (by decide) rfl ?_
    refine x_ret (rest := []) (st2 := [.int (lw (y >>> ((1 : Int32) &&& 31)) 7)]) (pc2 := 48) (cu2 := 0) (su2 := 0) (z_cS C kmL_low kk_L_21 (t_low hok (n := 7) (by decide)) rfl rfl (Nat.le_of_ble_eq_true rfl) ⟨(Nat.le_of_ble_eq_true rfl), (Nat.le_of_ble_eq_true rfl)⟩ ⟨by show 0 + 0 ≤ 30; omega, by show 0 + 0 ≤ 180; omega⟩ dL_act_45) rfl rfl rfl rfl ?_
    refine z_istore (pc2 := 50) (lv2 := [(6, .int (lw (y >>> ((1 : Int32) &&& 31)) 7)), (5, .int pv), (0, .ref o), (1, .ref nn), (2, .int y), (3, .int (nI q)), (4, .int (nI c))]) C dL_act_48 (by decide) rfl rfl ?_
    refine z_iload_n (pc2 := 51) C dL_act_50 4 rfl rfl rfl ?_
    refine z_bipush (pc2 := 53) (v := 6) C dL_act_51 (by decide) rfl ?_
    refine z_ishr (pc2 := 54) C dL_act_53 rfl ?_
    refine z_iconst (pc2 := 55) (v := 3) C dL_act_54 (by decide) rfl ?_
    refine x_ret (rest := []) (st2 := [.int (lw (y >>> ((6 : Int32) &&& 31)) 3)]) (pc2 := 58) (cu2 := 0) (su2 := 0) (z_cS C kmL_low kk_L_21 (t_low hok (n := 3) (by decide)) rfl rfl (Nat.le_of_ble_eq_true rfl) ⟨(Nat.le_of_ble_eq_true rfl), (Nat.le_of_ble_eq_true rfl)⟩ ⟨by show 0 + 0 ≤ 30; omega, by show 0 + 0 ≤ 180; omega⟩ dL_act_55) rfl rfl rfl rfl ?_
    refine z_istore (pc2 := 60) (lv2 := [(7, .int (lw (y >>> ((6 : Int32) &&& 31)) 3)), (6, .int (lw (y >>> ((1 : Int32) &&& 31)) 7)), (5, .int pv), (0, .ref o), (1, .ref nn), (2, .int y), (3, .int (nI q)), (4, .int (nI c))]) C dL_act_58 (by decide) rfl rfl ?_
    refine z_iload_n (pc2 := 61) C dL_act_60 6 rfl rfl rfl ?_
    refine z_sub (lv2 := [(0, .ref o), (1, .ref nn), (2, .int y), (3, .int (nI q)), (4, .int (nI c)), (5, .int pv), (6, .int (lw (y >>> ((1 : Int32) &&& 31)) 7)), (7, .int (lw (y >>> ((6 : Int32) &&& 31)) 3))]) C [3, 4, 5, 6, 7, 2, 1, 0] rfl ?_
    have hPo : ∀ (r : Int32) (Ω' : XO), ActP D Ω r Ω' → (fun (v : Value) (G' : XG) (Ω' : XO) => G' = G ∧ ∃ r : Int32, v = .int r ∧ ActP D Ω r Ω') (.int r) G Ω' := fun r Ω' ha => ⟨rfl, r, rfl, ha⟩
    rcases (show q = 0 ∨ q = 1 ∨ q = 2 ∨ q = 3 ∨ q = 4 ∨ q = 5 ∨ q = 6 ∨ q = 7 ∨ q = 8 ∨ q = 9 ∨ q = 10 by omega) with rfl | rfl | rfl | rfl | rfl | rfl | rfl | rfl | rfl | rfl | rfl
    · exact z_tableIn (tgt := 116) C dL_act_61 (by decide) (by decide) rfl (by decide) (act_A C hN hok eo en hd hdn hI hc E hPo)
    · exact z_tableIn (tgt := 116) C dL_act_61 (by decide) (by decide) rfl (by decide) (act_A C hN hok eo en hd hdn hI hc E hPo)
    · exact z_tableIn (tgt := 116) C dL_act_61 (by decide) (by decide) rfl (by decide) (act_A C hN hok eo en hd hdn hI hc E hPo)
    · exact z_tableIn (tgt := 116) C dL_act_61 (by decide) (by decide) rfl (by decide) (act_A C hN hok eo en hd hdn hI hc E hPo)
    · exact z_tableIn (tgt := 244) C dL_act_61 (by decide) (by decide) rfl (by decide) (act_B C hN hok eo en hd hdn hI hc E hPo)
    · exact z_tableIn (tgt := 244) C dL_act_61 (by decide) (by decide) rfl (by decide) (act_B C hN hok eo en hd hdn hI hc E hPo)
    · exact z_tableIn (tgt := 244) C dL_act_61 (by decide) (by decide) rfl (by decide) (act_B C hN hok eo en hd hdn hI hc E hPo)
    · exact z_tableIn (tgt := 306) C dL_act_61 (by decide) (by decide) rfl (by decide) (act_C C hN hok eo en hd hdn hI hc E hPo)
    · exact z_tableIn (tgt := 306) C dL_act_61 (by decide) (by decide) rfl (by decide) (act_C C hN hok eo en hd hdn hI hc E hPo)
    · exact z_tableIn (tgt := 353) C dL_act_61 (by decide) (by decide) rfl (by decide) (act_D C hN hok eo en hd hdn hI hc E hPo)
    · exact z_tableOut (tgt := 416) C dL_act_61 (Or.inr (by decide)) (by decide) (act_E C hN hok eo en hd hdn hI hc E hPo)
  refine z_if_ne (tgt := 32) (pc2 := 17) C dL_act_14 (by decide) rfl (fun qc => ?_) (fun qc => ?_)
  · skip
    refine z_aload_n (pc2 := 33) C dL_act_32 2 rfl rfl rfl ?_
    refine z_iload (pc2 := 35) C dL_act_33 0 rfl rfl ?_
    refine z_ialdn (pc2 := 36) C en hdn dL_act_35 rfl (show c < 6 by omega) (by decide) n1 rfl ?_
    refine z_iconst (pc2 := 37) (v := 1) C dL_act_36 (by decide) rfl ?_
    refine z_isub (pc2 := 38) C dL_act_37 rfl ?_
    exact z_sub (lv2 := [(0, .ref o), (1, .ref nn), (2, .int y), (3, .int (nI q)), (4, .int (nI c))]) C [1, 2, 3, 4, 0] rfl (J _)
  · skip
    refine z_iload_n (pc2 := 18) C dL_act_17 3 rfl rfl rfl ?_
    refine z_iconst (pc2 := 19) (v := 4) C dL_act_18 (by decide) rfl ?_
    refine z_ishr (pc2 := 20) C dL_act_19 rfl ?_
    refine z_aload_n (pc2 := 21) C dL_act_20 2 rfl rfl rfl ?_
    refine z_iload (pc2 := 23) C dL_act_21 0 rfl rfl ?_
    refine z_ialdn (pc2 := 24) C en hdn dL_act_23 rfl (show c < 6 by omega) (by decide) n1 rfl ?_
    refine z_iconst (pc2 := 25) (v := 1) C dL_act_24 (by decide) rfl ?_
    refine z_iadd (pc2 := 26) C dL_act_25 rfl ?_
    refine z_vec (st2 := [.int (nI (dnb D c + 1)), .int (y >>> ((4 : Int32) &&& 31))]) (by rw [nI_1]) ?_
    refine x_ret (rest := []) (st2 := [.int (lw (y >>> ((4 : Int32) &&& 31)) (nI (dnb D c + 1)))]) (pc2 := 29) (cu2 := 0) (su2 := 0) (z_cS C kmL_low kk_L_21 (t_low hok (n := (nI (dnb D c + 1))) (nI_ne0 (by omega) (by omega))) rfl rfl (Nat.le_of_ble_eq_true rfl) ⟨(Nat.le_of_ble_eq_true rfl), (Nat.le_of_ble_eq_true rfl)⟩ ⟨by show 0 + 0 ≤ 30; omega, by show 0 + 0 ≤ 180; omega⟩ dL_act_26) rfl rfl rfl rfl ?_
    refine z_goto (tgt := 38) C dL_act_29 (by decide) ?_
    exact z_sub (lv2 := [(0, .ref o), (1, .ref nn), (2, .int y), (3, .int (nI q)), (4, .int (nI c))]) C [1, 2, 3, 4, 0] rfl (J _)
