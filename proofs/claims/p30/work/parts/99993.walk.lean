theorem GA_gb {l : Launch} {b0 : Nat} {D : va_G} {C : Nat → ClassId} {T : Nat → Nat} {p n : Nat} : gb (GA l b0 D C T p n) = b0 + p := rfl
theorem tt_18 : TT.all (fun x => !(Nat.beq x.1 2018)) = true := by decide +kernel
theorem GA_n18 {l : Launch} {b0 : Nat} {D : va_G} {C : Nat → ClassId} {T : Nat → Nat} {p n : Nat} (hpn : p + n ≤ 699) (e : Nat) : ¬ dm (GA l b0 D C T p n) 2018 e := fun h => by
  obtain ⟨q, hq, h2⟩ := GA_of h
  have h3 : p + q < TT.length := by rw [TT_len]; omega
  rw [List.getD_eq_getElem?_getD, List.getElem?_eq_getElem h3] at h2
  have h4 : TT[p + q] = (2018, e) := h2
  have h5 := List.all_eq_true.mp tt_18 TT[p + q] (List.getElem_mem h3)
  rw [h4] at h5
  cases h5
set_option maxRecDepth 20000 in
theorem st_walk {l : Launch} (hst : l.stackTraces = false) {p : Program} {e : Env} {s : State} {m : MethodId} {args : Array Value} {below : List Frame} {meth : Method} {c : Code} {Q : State → Prop} {b L : Nat} {xs : Nat → Int32} (hL : L ≤ 260) (hx : p.tables.exec = Jvm.exec) (hb : c.code = code) (hml : c.maxLocals = 8) (hown : s.vm.findClass RL = some m.cls) (hts : ∀ w ∈ lw_tbl, w.before args s = true) (hg : ∀ w ∈ givC, w.before args s = true) (hX : va_X b L xs s s.heap) (hbl : b < s.heap.size) (hlk : meth.locks = false)
    (hend : ∀ (H : Heap) (locs : List Loc) (ls : Array Slot) (cu su : Nat), cu ≤ 600052 → su ≤ 7301782 → (∀ q ∈ locs, s.heap.size ≤ q.base) → W p l e room_1 s m args below meth c H locs cu su Q (F0 m 320 ls [.int 1])) (ls : Array Slot) (hl : lv_has ls 8 [(0, .ref b)]) : W p l e room_1 s m args below meth c s.heap [] 0 0 Q (F0 m 0 ls []) := by
  obtain ⟨D, hD⟩ := st_D hts
  obtain ⟨Cf, hC⟩ := st_C hts
  have hA : ∀ a : Nat, a < s.heap.size → ¬ (fun q => s.heap.size ≤ q) a := fun a h h2 => by
    have h3 : s.heap.size ≤ a := h2
    omega
  obtain ⟨Ts, hT⟩ := st_T hts hg hA
  obtain ⟨b0, hb0⟩ : ∃ b0, b0 = s.heap.size := ⟨_, rfl⟩
  obtain ⟨G, hG⟩ : ∃ G, G = GA l b0 D Cf Ts 0 699 := ⟨_, rfl⟩
  have hgb : gb G = b0 := by rw [hG]; rfl
  have hok : XK G := by rw [hG]; exact GA_XK hst (by decide) clo_a
  have hXU : XU G s := by
    rw [hG]
    refine ⟨by show b0 + 0 ≤ s.heap.size; omega, ⟨fun c q hq => ?_, hC⟩, st_N hts, ?_⟩
    · have hc : c < 11 := (List.getElem?_eq_some_iff.mp hq).1
      have h9 := (cl_at hc).symm.trans hq
      cases h9
      exact hD c hc
    · have hA2 : ∀ a : Nat, a < s.heap.size → ¬ xA (GA l b0 D Cf Ts 0 699) a := fun a h h2 => by
        have h3 : b0 + 0 ≤ a := h2
        omega
      have hw : ∀ z, xA (GA l b0 D Cf Ts 0 699) z → s.heap.size ≤ z := fun z h2 => by
        have h3 : b0 + 0 ≤ z := h2
        omega
      exact ⟨fun q hq => ⟨va_Z.narrow (hT q hq).1 hw, va_T.narrow (hT q hq).2 hw⟩, vx_Zqof (hts _ yls_4) (hts _ yzT) (hg _ giv_st.1) hA2, vx_Zqof (hts _ yls_5) (hts _ yzT) (hg _ giv_st.2) hA2⟩
  have hYU : YU G s := by
    refine ⟨hXU, ?_⟩
    unfold xao
    simp only [List.forall_mem_cons]
    exact ⟨va_AO.of (hts _ yao_Block), va_AO.of (hts _ yao_Chain), va_AO.of (hts _ yao_Frame), va_AO.of (hts _ yao_Transaction), va_AO.of (hts _ yao_Validator), va_AO.of (hts _ yao_Vote), fun _ h => absurd h List.not_mem_nil⟩
  have hNc : XNc s := ⟨va_Nc.of (hg _ giv_nc.1), va_Nc.of (hg _ giv_nc.2.1), va_Nc.of (hg _ giv_nc.2.2)⟩
  obtain ⟨B, hB⟩ : ∃ B : XB, B = (p, e, room_1, s, m, args, below, meth, c, Q) := ⟨_, rfl⟩
  have C : ZC G B cL_law RL room_1 8 := by
    rw [hB]
    exact ⟨hx, hb, hml, hown, fun w hw => hts w (lg_tb hw), hYU, trivial, hlk, rfl, trivial, by rw [hgb]; exact hb0.symm, trivial, trivial⟩
  have hAT : AO G b0 TT := by rw [hG]; exact AO_TT
  have hA1 : AO G b0 tFB := by unfold TT at hAT; exact hAT.l
  have hA0 : ∀ p n, AO (GA l b0 D Cf Ts p n) b0 tFB := fun p n => by
    have h : AO (GA l b0 D Cf Ts p n) b0 TT := AO_TT
    unfold TT at h
    exact h.l
  have hA3 : ad G 2017 0 = b0 + 698 := by
    unfold TT at hAT
    exact hAT.r tFB_len rfl 0 (2017, 0) rfl
  have e10 : ad G 10 0 = b0 := hA1 0 (10, 0) (by decide +kernel)
  have hd10 : dm G 10 0 := by rw [hG]; exact GA_dm (by decide) (by decide) (by decide +kernel)
  have hd17 : dm G 2017 0 := by rw [hG]; exact GA_dm (by decide) (by decide) (by decide +kernel)
  have hn18 : ∀ e, ¬ dm G 2018 e := by rw [hG]; exact GA_n18 (by decide)
  have cF : YM (Gat G b0) yX10_init cX10_init 3 ({ frames := 10, cells := 697, slots := 13602, locals := 600 }) [.ref b0] [(b0, .inr (10, [.null, .null, .null]))] (PL G oI tFB) := by
    rw [hG, PL_GA 0 699 0 698]
    refine YM.gat (p2 := 0) (n2 := 698) ?_ rfl
    refine cY10 (G := GA l b0 D Cf Ts 0 698) (by rw [GA_gb]; exact hA0 0 698) (fun c hc => ?_)
    refine YM.gat (p2 := 48 + 325 * c) (n2 := 325) ?_ (by show b0 + (48 + 325 * c) = b0 + 0 + 48 + 325 * c; omega)
    have hAc : AO (GA l b0 D Cf Ts (48 + 325 * c) 325) (b0 + (48 + 325 * c)) (tCh c) := by
      have h9 : AO (GA l b0 D Cf Ts (48 + 325 * c) 325) b0 tFB := hA0 (48 + 325 * c) 325
      unfold tFB at h9
      have h8 := h9.r (n := 48) (b2 := b0 + 48) (by decide +kernel) rfl
      have h7 := AO.fm (m := 325) tCh_len h8 c hc
      rw [show b0 + 48 + 325 * c = b0 + (48 + 325 * c) by omega] at h7
      exact h7
    have key := cY1 (G := GA l b0 D Cf Ts (48 + 325 * c) 325) hc (by rcases (show c = 0 ∨ c = 1 by omega) with rfl | rfl; exact GA_XK hst (by decide) clo_0; exact GA_XK hst (by decide) clo_1) hAc (fun Ω => pl_PL (tCh_len c) hAc (st_ch hc)) (by rcases (show c = 0 ∨ c = 1 by omega) with rfl | rfl; exact GA_dm (by decide) (by decide) (by decide +kernel); exact GA_dm (by decide) (by decide) (by decide +kernel))
    rw [GA_gb, PL_GA (48 + 325 * c) 325 0 698] at key
    rw [show gb (GA l b0 D Cf Ts 0 698) + 48 + 325 * c = b0 + (48 + 325 * c) by rw [GA_gb]; omega]
    exact key
  have l1 : (PL G oI tFB).length = 698 := by unfold PL; rw [List.length_map]; exact tFB_len
  have k0 : ZW G B 8 0 [(0, .ref b)] [] [] 0 0 := by
    refine v_new (kd := 10) (pc2 := 3) (q := b0) (cu2 := 1) (su2 := 3) C (Nat.le_of_ble_eq_true rfl) rfl rfl kn_L_10 yi_10 yz_10 dL_law_0 yd_10 (Nat.le_of_ble_eq_true rfl) (Nat.le_of_ble_eq_true rfl) (by rw [hgb]; rfl) rfl rfl rfl ?_
    refine v_dup (pc2 := 4) C dL_law_3 rfl rfl ?_
    refine v_cI (P := []) (pc2 := 7) (q := b0) (cu2 := 698) (su2 := 13605) (As := []) (rest := [.ref b0]) C kk_L_116 kmX10_init cF (by rw [hgb]; rfl) rfl rfl (Nat.le_of_ble_eq_true rfl) ⟨(Nat.le_of_ble_eq_true rfl), (Nat.le_of_ble_eq_true rfl)⟩ ⟨(Nat.le_of_ble_eq_true rfl), (Nat.le_of_ble_eq_true rfl)⟩ dL_law_4 rfl rfl rfl ?_
    refine v_astore_n (pc2 := 8) (lv2 := [(1, .ref b0), (0, .ref b)]) C dL_law_7 rfl (by decide) rfl rfl ?_
    refine v_bipush (pc2 := 10) (v := 6) C dL_law_8 (by decide) rfl ?_
    refine v_newai (pc2 := 12) (q := b0 + 698) (N := 6) (cu2 := 699) (su2 := 13611) C dL_law_10 (by decide) rfl (Nat.le_of_ble_eq_true rfl) (Nat.le_of_ble_eq_true rfl) (Nat.le_of_ble_eq_true rfl) (by rw [hgb, List.nil_append, l1]) rfl rfl rfl ?_
    refine v_astore_n (pc2 := 13) (lv2 := [(2, .ref (b0 + 698)), (1, .ref b0), (0, .ref b)]) C dL_law_12 rfl (by decide) rfl rfl ?_
    refine v_toX (Ω := oS) C hok ?_ (fun Z => ?_)
    · have hpl : pl G oS = PL G oS TT := by
        rw [hG]
        refine pl_PL TT_len AO_TT (fun q x hx => ?_)
        rw [Nat.zero_add, List.getD_eq_getElem?_getD, hx]
        rfl
      rw [hpl]
      unfold TT
      rw [PL_app, List.nil_append, PL_alk (fun x hx => alk_c (tFB_k x hx))]
      show _ = _ ++ [(ad G 2017 0, EE G oS 2017 0)]
      rw [hA3, EE_ai (by decide) (by decide), show xI oS 2017 0 = fun _ => 0 from funext oS_17]
      rfl
    · have S : XSc G b L xs B := by
        rw [hB]
        refine ⟨hX, hbl, fun h2 => ?_⟩
        have h3 : gb G ≤ b := h2
        omega
      have hNB : XNB B := by rw [hB]; exact hNc
      rw [← hA3, ← e10]
      refine z_aload_n (pc2 := 14) Z dL_law_13 0 rfl rfl rfl ?_
      refine z_iconst (pc2 := 15) (v := nI 0) Z dL_law_14 (by decide) rfl ?_
      refine z_iconst (pc2 := 16) (v := 1) Z dL_law_15 (by decide) rfl ?_
      refine z_iast (kd := 2017) (i := 0) (pc2 := 17) Z hd17 dL_law_16 (by decide) (vp_in_nI (by decide) (by decide)) rfl ?_
      refine z_aload_n (pc2 := 18) Z dL_law_17 0 rfl rfl rfl ?_
      refine z_iconst (pc2 := 19) (v := nI 1) Z dL_law_18 (by decide) rfl ?_
      refine z_iconst (pc2 := 20) (v := 1) Z dL_law_19 (by decide) rfl ?_
      refine z_iast (kd := 2017) (i := 0) (pc2 := 21) Z hd17 dL_law_20 (by decide) (vp_in_nI (by decide) (by decide)) rfl ?_
      refine z_iconst (pc2 := 22) (v := nI 0) Z dL_law_21 (by decide) rfl ?_
      refine z_istore_n (pc2 := 23) (lv2 := [(3, .int (nI 0)), (2, .ref (ad G 2017 0)), (1, .ref (ad G 10 0)), (0, .ref b)]) Z dL_law_22 rfl (by decide) rfl rfl ?_
      refine z_sub (lv2 := [(0, .ref b), (1, .ref (ad G 10 0)), (2, .ref (ad G 2017 0)), (3, .int (nI 0))]) Z [3, 2, 1, 0] rfl ?_
      refine law_1 Z hNB hok S hL rfl rfl hd10 hd17 (c1 := 939) (s1 := 15051) (Nat.le_of_ble_eq_true rfl) (Nat.le_of_ble_eq_true rfl) (fun Ω1 hI1 => ?_) 40 0 _ _ _ rfl li0 (Nat.le_of_ble_eq_true rfl) (Nat.le_of_ble_eq_true rfl)
      refine z_iconst (pc2 := 97) (v := nI 0) Z dL_law_96 (by decide) rfl ?_
      refine z_istore_n (pc2 := 98) (lv2 := [(3, .int (nI 0)), (0, .ref b), (1, .ref (ad G 10 0)), (2, .ref (ad G 2017 0))]) Z dL_law_97 rfl (by decide) rfl rfl ?_
      refine z_sub (lv2 := [(0, .ref b), (1, .ref (ad G 10 0)), (2, .ref (ad G 2017 0)), (3, .int (nI 0))]) Z [1, 2, 3, 0] rfl ?_
      refine law_2 Z hNB hok S hL rfl rfl hd10 hd17 hn18 (c1 := 261739) (s1 := 1579851) (Nat.le_of_ble_eq_true rfl) (Nat.le_of_ble_eq_true rfl) (fun D2 Ω2 hI2 => ?_) 40 0 _ _ _ _ rfl hI1 (Nat.le_of_ble_eq_true rfl) (Nat.le_of_ble_eq_true rfl)
      refine law_3 Z hNB hok S hL rfl rfl hd10 hd17 hI2 (Nat.le_of_ble_eq_true rfl) (Nat.le_of_ble_eq_true rfl) (fun lv Ω3 => ?_)
      rw [hB]
      intro H locs ls hP hS hl
      rw [hG]
      exact hend H locs ls _ _ (Nat.le_of_ble_eq_true rfl) (Nat.le_of_ble_eq_true rfl) (fun q hq => by
        have h3 : gb G ≤ q.base := hS.2.2 q hq
        omega)
  have k1 := k0
  rw [hB] at k1
  have k2 := k1 s.heap [] ls (by rw [hgb, hb0]; rfl) rfl (fun q x hx => by cases hx) (fun q x hx => by cases hx) va_S.rf hl
  rw [hG] at k2
  exact k2
