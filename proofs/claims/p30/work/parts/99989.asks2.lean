theorem LI.keep {D : XD} {Ω Ω' : XO} (h : LI D Ω) (hr : RP D Ω') (hk : KL Ω Ω') : LI D Ω' := ⟨hr, fun c hc => by
  obtain ⟨n1, n2, ⟨f, f1, f2⟩, n4⟩ := h.2 c hc
  exact ⟨(hk 2017 _ _ (Or.inl rfl)).trans n1, (hk 2017 _ _ (Or.inl rfl)).trans n2, ⟨f, f1, (hk 2017 _ _ (Or.inl rfl)).trans f2⟩, n4⟩⟩
/-- the last final block's number is noted -/
theorem LI.note {D : XD} {Ω : XO} (h : LI D Ω) {c : Nat} (hc : c < 2) : LI D (uI Ω 2017 0 (4 + c) (nI (dfn D c))) := by
  refine ⟨h.1.mv (fun k i j hk => I_ne (cky_18 hk).2) (fun k i j => by rw [L_uI]), fun c' hc' => ?_⟩
  obtain ⟨n1, n2, ⟨f, f1, f2⟩, n4⟩ := h.2 c' hc'
  refine ⟨?_, ?_, ?_, n4⟩
  · rw [I_uI, if_neg (fun z => by omega)]
    exact n1
  · rw [I_uI, if_neg (fun z => by omega)]
    exact n2
  · by_cases z : c' = c
    · refine ⟨dfn D c, by rw [z]; exact Nat.le_refl _, ?_⟩
      rw [I_uI, if_pos ⟨rfl, rfl, by rw [z]⟩]
    · refine ⟨f, f1, ?_⟩
      rw [I_uI, if_neg (fun y => by omega)]
      exact f2
set_option maxRecDepth 20000 in
theorem asks_c {G : XG} {B : XB} (C : XZ G B cL_asks RL (RM 17 6000) 8) (hN : XNB B) (hok : XK G) {o nn : Nat} (eo : ad G 10 0 = o) (en : ad G 2017 0 = nn) (hd : dm G 10 0) (hdn : dm G 2017 0) {y : Int32} {D : XD} {Ω : XO} (hI : LI D Ω) {c : Nat} (hc : c < 2) {cu su : Nat} (hcu : cu + 2960 ≤ 6000) (hsu : su + 17760 ≤ 36000) (k : ∀ Ω2, LI D Ω2 → (∀ e j, xI Ω2 2018 e j = xI Ω 2018 e j) → XW G B 8 264 [(0, .ref o), (1, .ref nn), (2, .int y), (3, .int (nI c))] [] Ω2 (cu + 2960) (su + 17760)) : XW G B 8 7 [(0, .ref o), (1, .ref nn), (2, .int y), (3, .int (nI c))] [] Ω cu su := by
  obtain ⟨⟨⟨M, h⟩, hx⟩, hn⟩ := id hI
  obtain ⟨n1, n2, -, n4, n5⟩ := hn c hc
  obtain ⟨nb1, nb2, nb3, nb4⟩ := h.NB c hc
  obtain ⟨kb, hkb, ekb⟩ := lw_lt (y >>> (3 &&& 31)) (m := dnb D c) (by omega) (by omega)
  obtain ⟨C2, hf, hkl, hrp, hsr⟩ := m_anew hI.1 hc hkb
  have hI2 := hI.keep hrp hkl
  obtain ⟨⟨⟨M2, h2⟩, hx2⟩, hn2⟩ := id hI2
  obtain ⟨m1, m2, ⟨f, f1, f2⟩, -, -⟩ := hn2 c hc
  obtain ⟨yc, yc1, yc2⟩ := e_cnt h2 hc
  obtain ⟨mh, mh1, mh2⟩ := e_head2 h2 hc
  obtain ⟨fn1, fn2, fn3⟩ := h2.FN c hc
  have hj1 := hx2.2.1 c hc
  have hj0 : xI C2 14 (24 * c + 0) 0 = 1 := (h2.JL c hc).1
  refine z_iconst (pc2 := 8) (v := 0) C dL_asks_7 (by decide) rfl ?_
  refine z_istore (pc2 := 10) (lv2 := [(4, .int 0), (0, .ref o), (1, .ref nn), (2, .int y), (3, .int (nI c))]) C dL_asks_8 (by decide) rfl rfl ?_
  refine z_sub (lv2 := [(0, .ref o), (1, .ref nn), (2, .int y), (3, .int (nI c)), (4, .int (nI 0))]) C [1, 2, 3, 4, 0] rfl (asks_b C hN hok eo en hd hdn hI hc (c1 := cu + 2940) (s1 := su + 17640) (by omega) (by omega) ?_ (dnb D c) 0 cu su (by omega) (by omega) (by omega))
  refine z_iload_n (pc2 := 150) C dL_asks_149 2 rfl rfl rfl ?_
  refine z_iconst (pc2 := 151) (v := 3) C dL_asks_150 (by decide) rfl ?_
  refine z_ishr (pc2 := 152) C dL_asks_151 rfl ?_
  refine z_aload_n (pc2 := 153) C dL_asks_152 1 rfl rfl rfl ?_
  refine z_iload_n (pc2 := 154) C dL_asks_153 3 rfl rfl rfl ?_
  refine z_ialdn (pc2 := 155) C en hdn dL_asks_154 rfl (show c < 6 by omega) (by decide) n1 rfl ?_
  refine x_ret (rest := []) (st2 := [.int (lw (y >>> ((3 : Int32) &&& 31)) (nI (dnb D c)))]) (pc2 := 158) (cu2 := cu + 2940) (su2 := su + 17640) (z_cS C kmL_low kk_L_21 (t_low hok (n := (nI (dnb D c))) (nI_ne0 (by omega) (by omega))) rfl rfl (Nat.le_of_ble_eq_true rfl) ⟨(Nat.le_of_ble_eq_true rfl), (Nat.le_of_ble_eq_true rfl)⟩ ⟨by show cu + 2940 + 0 ≤ 6000; omega, by show su + 17640 + 0 ≤ 36000; omega⟩ dL_asks_155) rfl rfl rfl rfl ?_
  refine z_vec (st2 := [.int (nI kb)]) (by rw [ekb]) ?_
  refine z_istore (pc2 := 160) (lv2 := [(4, .int (nI kb)), (0, .ref o), (1, .ref nn), (2, .int y), (3, .int (nI c))]) C dL_asks_158 (by decide) rfl rfl ?_
  refine z_aload_n (pc2 := 161) C dL_asks_160 1 rfl rfl rfl ?_
  refine z_iload_n (pc2 := 162) C dL_asks_161 4 rfl rfl rfl ?_
  refine z_iload (pc2 := 164) C dL_asks_162 0 rfl rfl ?_
  refine z_cR (rest := []) (pc2 := 167) (cu2 := cu + 2940 + 3) (su2 := su + 17640 + 18) C eo hd (Nat.le_of_ble_eq_true rfl) kmX10_rootAnew rfl kk_L_95 (r_anew hok eo hd hf) rfl rfl (Nat.le_of_ble_eq_true rfl) ⟨(Nat.le_of_ble_eq_true rfl), (Nat.le_of_ble_eq_true rfl)⟩ ⟨by show cu + 2940 + 3 ≤ 6000; omega, by show su + 17640 + 18 ≤ 36000; omega⟩ dL_asks_164 rfl rfl rfl ?_
  refine z_cu (cu2 := cu + 2943) (su2 := su + 17658) (by omega) (by omega) ?_
  refine z_aload_n (pc2 := 168) C dL_asks_167 1 rfl rfl rfl ?_
  refine z_iload_n (pc2 := 169) C dL_asks_168 4 rfl rfl rfl ?_
  refine z_iload (pc2 := 171) C dL_asks_169 0 rfl rfl ?_
  refine z_cR (rest := [.int (xI Ω 12 (24 * c + kb) 0)]) (pc2 := 174) (cu2 := cu + 2943 + 2) (su2 := su + 17658 + 12) C eo hd (Nat.le_of_ble_eq_true rfl) kmX10_root rfl kk_L_46 (r_root hok eo hd h2 hc hkb) rfl rfl (Nat.le_of_ble_eq_true rfl) ⟨(Nat.le_of_ble_eq_true rfl), (Nat.le_of_ble_eq_true rfl)⟩ ⟨by show cu + 2943 + 2 ≤ 6000; omega, by show su + 17658 + 12 ≤ 36000; omega⟩ dL_asks_171 rfl rfl rfl ?_
  refine z_cu (cu2 := cu + 2945) (su2 := su + 17670) (by omega) (by omega) ?_
  refine z_vec (st2 := [.int (xI Ω 12 (24 * c + kb) 0), .int (xI Ω 12 (24 * c + kb) 0)]) (by rw [hsr.2 12 _ _ (Or.inl rfl)]) ?_
  refine z_icmp_ne (tgt := 215) (pc2 := 177) C dL_asks_174 (by decide) rfl (fun qc => ?_) (fun qc => ?_)
  · skip
    exact absurd rfl qc
  · skip
    refine z_aload_n (pc2 := 178) C dL_asks_177 1 rfl rfl rfl ?_
    refine z_iload_n (pc2 := 179) C dL_asks_178 4 rfl rfl rfl ?_
    refine z_cR (rest := []) (pc2 := 182) (cu2 := cu + 2945 + 1) (su2 := su + 17670 + 6) C eo hd (Nat.le_of_ble_eq_true rfl) kmX10_pool rfl kk_L_54 (r_pool hok eo hd h2 hc) rfl rfl (Nat.le_of_ble_eq_true rfl) ⟨(Nat.le_of_ble_eq_true rfl), (Nat.le_of_ble_eq_true rfl)⟩ ⟨by show cu + 2945 + 1 ≤ 6000; omega, by show su + 17670 + 6 ≤ 36000; omega⟩ dL_asks_179 rfl rfl rfl ?_
    refine z_cu (cu2 := cu + 2946) (su2 := su + 17676) (by omega) (by omega) ?_
    refine z_vec (st2 := [.int (nI yc)]) (by rw [yc1]) ?_
    refine z_aload_n (pc2 := 183) C dL_asks_182 2 rfl rfl rfl ?_
    refine z_iconst (pc2 := 184) (v := 2) C dL_asks_183 (by decide) rfl ?_
    refine z_iload_n (pc2 := 185) C dL_asks_184 4 rfl rfl rfl ?_
    refine z_iadd (pc2 := 186) C dL_asks_185 rfl ?_
    refine z_vec (st2 := [.int (nI (2 + c)), .ref nn, .int (nI yc)]) (by rw [show (2 : Int32) = nI 2 from rfl, nI_add]) ?_
    refine z_ialdn (pc2 := 187) C en hdn dL_asks_186 rfl (show 2 + c < 6 by omega) (by decide) m2 rfl ?_
    refine z_icmp_gt (tgt := 215) (pc2 := 190) C dL_asks_187 (by decide) rfl (fun qc => ?_) (fun qc => ?_)
    · skip
      exact absurd (nI_le yc2 (by omega)) (fun z => by rw [ti_le] at z; rw [ti_lt] at qc; omega)
    · skip
      refine z_aload_n (pc2 := 191) C dL_asks_190 1 rfl rfl rfl ?_
      refine z_iload_n (pc2 := 192) C dL_asks_191 4 rfl rfl rfl ?_
      refine z_cR (rest := []) (pc2 := 195) (cu2 := cu + 2946 + 1) (su2 := su + 17676 + 6) C eo hd (Nat.le_of_ble_eq_true rfl) kmX10_head rfl kk_L_58 (r_head hok eo hd h2 hc) rfl rfl (Nat.le_of_ble_eq_true rfl) ⟨(Nat.le_of_ble_eq_true rfl), (Nat.le_of_ble_eq_true rfl)⟩ ⟨by show cu + 2946 + 1 ≤ 6000; omega, by show su + 17676 + 6 ≤ 36000; omega⟩ dL_asks_192 rfl rfl rfl ?_
      refine z_cu (cu2 := cu + 2947) (su2 := su + 17682) (by omega) (by omega) ?_
      refine z_vec (st2 := [.int (nI mh)]) (by rw [mh2]) ?_
      refine z_aload_n (pc2 := 196) C dL_asks_195 2 rfl rfl rfl ?_
      refine z_iload_n (pc2 := 197) C dL_asks_196 4 rfl rfl rfl ?_
      refine z_ialdn (pc2 := 198) C en hdn dL_asks_197 rfl (show c < 6 by omega) (by decide) m1 rfl ?_
      refine z_icmp_ge (tgt := 215) (pc2 := 201) C dL_asks_198 (by decide) rfl (fun qc => ?_) (fun qc => ?_)
      · skip
        exact absurd qc (nI_ge mh1 (by omega))
      · skip
        refine z_aload_n (pc2 := 202) C dL_asks_201 1 rfl rfl rfl ?_
        refine z_iload_n (pc2 := 203) C dL_asks_202 4 rfl rfl rfl ?_
        refine z_aload_n (pc2 := 204) C dL_asks_203 1 rfl rfl rfl ?_
        refine z_iload_n (pc2 := 205) C dL_asks_204 4 rfl rfl rfl ?_
        refine z_cR (rest := [.int (nI c), .ref o]) (pc2 := 208) (cu2 := cu + 2947 + 1) (su2 := su + 17682 + 6) C eo hd (Nat.le_of_ble_eq_true rfl) kmX10_lastFinal rfl kk_L_61 (r_last hok eo hd h2 hc) rfl rfl (Nat.le_of_ble_eq_true rfl) ⟨(Nat.le_of_ble_eq_true rfl), (Nat.le_of_ble_eq_true rfl)⟩ ⟨by show cu + 2947 + 1 ≤ 6000; omega, by show su + 17682 + 6 ≤ 36000; omega⟩ dL_asks_205 rfl rfl rfl ?_
        refine z_cu (cu2 := cu + 2948) (su2 := su + 17688) (by omega) (by omega) ?_
        refine z_iconst (pc2 := 209) (v := 3) C dL_asks_208 (by decide) rfl ?_
        rcases h_coins hok eo hd h2 hc fn3 (show 3 < 16 by decide) with ⟨hdr, v, hv, hM⟩ | ⟨hdr, hM⟩
        · refine x_ret (rest := []) (st2 := [.int (nI v)]) (pc2 := 212) (cu2 := cu + 2952) (su2 := su + 17712) (z_cH C hN kmL_coins rfl kk_L_78 hM rfl rfl (Nat.le_of_ble_eq_true rfl) ⟨(Nat.le_of_ble_eq_true rfl), (Nat.le_of_ble_eq_true rfl)⟩ ⟨by show cu + 2948 + 4 ≤ 6000; omega, by show su + 17688 + 24 ≤ 36000; omega⟩ dL_asks_209) rfl rfl rfl rfl ?_
          refine z_if_ge (tgt := 217) (pc2 := 215) C dL_asks_212 (by decide) rfl (fun qc => ?_) (fun qc => ?_)
          · skip
            refine z_aload_n (pc2 := 218) C dL_asks_217 1 rfl rfl rfl ?_
            refine z_iload_n (pc2 := 219) C dL_asks_218 4 rfl rfl rfl ?_
            refine z_aload_n (pc2 := 220) C dL_asks_219 1 rfl rfl rfl ?_
            refine z_iload_n (pc2 := 221) C dL_asks_220 4 rfl rfl rfl ?_
            refine z_cR (rest := [.int (nI c), .ref o]) (pc2 := 224) (cu2 := cu + 2952 + 1) (su2 := su + 17712 + 6) C eo hd (Nat.le_of_ble_eq_true rfl) kmX10_lastFinal rfl kk_L_61 (r_last hok eo hd h2 hc) rfl rfl (Nat.le_of_ble_eq_true rfl) ⟨(Nat.le_of_ble_eq_true rfl), (Nat.le_of_ble_eq_true rfl)⟩ ⟨by show cu + 2952 + 1 ≤ 6000; omega, by show su + 17712 + 6 ≤ 36000; omega⟩ dL_asks_221 rfl rfl rfl ?_
            refine z_cu (cu2 := cu + 2953) (su2 := su + 17718) (by omega) (by omega) ?_
            refine z_cR (rest := []) (pc2 := 227) (cu2 := cu + 2953 + 2) (su2 := su + 17718 + 12) C eo hd (Nat.le_of_ble_eq_true rfl) kmX10_isJustified rfl kk_L_49 (r_just hok eo hd h2 hc fn3) rfl rfl (Nat.le_of_ble_eq_true rfl) ⟨(Nat.le_of_ble_eq_true rfl), (Nat.le_of_ble_eq_true rfl)⟩ ⟨by show cu + 2953 + 2 ≤ 6000; omega, by show su + 17718 + 12 ≤ 36000; omega⟩ dL_asks_224 rfl rfl rfl ?_
            refine z_cu (cu2 := cu + 2955) (su2 := su + 17730) (by omega) (by omega) ?_
            refine z_vec (st2 := [.int 1]) (by rw [hj1]) ?_
            refine z_if_eq (tgt := 252) (pc2 := 230) C dL_asks_227 (by decide) rfl (fun qc => ?_) (fun qc => ?_)
            · skip
              exact absurd qc (by decide)
            · skip
              refine z_aload_n (pc2 := 231) C dL_asks_230 1 rfl rfl rfl ?_
              refine z_iload_n (pc2 := 232) C dL_asks_231 4 rfl rfl rfl ?_
              refine z_iconst (pc2 := 233) (v := 0) C dL_asks_232 (by decide) rfl ?_
              refine z_cR (rest := []) (pc2 := 236) (cu2 := cu + 2955 + 2) (su2 := su + 17730 + 12) C eo hd (Nat.le_of_ble_eq_true rfl) kmX10_isJustified rfl kk_L_49 (r_just hok eo hd h2 hc (b := 0) (by omega)) rfl rfl (Nat.le_of_ble_eq_true rfl) ⟨(Nat.le_of_ble_eq_true rfl), (Nat.le_of_ble_eq_true rfl)⟩ ⟨by show cu + 2955 + 2 ≤ 6000; omega, by show su + 17730 + 12 ≤ 36000; omega⟩ dL_asks_233 rfl rfl rfl ?_
              refine z_cu (cu2 := cu + 2957) (su2 := su + 17742) (by omega) (by omega) ?_
              refine z_vec (st2 := [.int 1]) (by rw [hj0]) ?_
              refine z_if_eq (tgt := 252) (pc2 := 239) C dL_asks_236 (by decide) rfl (fun qc => ?_) (fun qc => ?_)
              · skip
                exact absurd qc (by decide)
              · skip
                refine z_aload_n (pc2 := 240) C dL_asks_239 1 rfl rfl rfl ?_
                refine z_iload_n (pc2 := 241) C dL_asks_240 4 rfl rfl rfl ?_
                refine z_cR (rest := []) (pc2 := 244) (cu2 := cu + 2957 + 1) (su2 := su + 17742 + 6) C eo hd (Nat.le_of_ble_eq_true rfl) kmX10_lastFinal rfl kk_L_61 (r_last hok eo hd h2 hc) rfl rfl (Nat.le_of_ble_eq_true rfl) ⟨(Nat.le_of_ble_eq_true rfl), (Nat.le_of_ble_eq_true rfl)⟩ ⟨by show cu + 2957 + 1 ≤ 6000; omega, by show su + 17742 + 6 ≤ 36000; omega⟩ dL_asks_241 rfl rfl rfl ?_
                refine z_cu (cu2 := cu + 2958) (su2 := su + 17748) (by omega) (by omega) ?_
                refine z_aload_n (pc2 := 245) C dL_asks_244 2 rfl rfl rfl ?_
                refine z_iconst (pc2 := 246) (v := 4) C dL_asks_245 (by decide) rfl ?_
                refine z_iload_n (pc2 := 247) C dL_asks_246 4 rfl rfl rfl ?_
                refine z_iadd (pc2 := 248) C dL_asks_247 rfl ?_
                refine z_vec (st2 := [.int (nI (4 + c)), .ref nn, .int (nI (dfn D c))]) (by rw [show (4 : Int32) = nI 4 from rfl, nI_add]) ?_
                refine z_ialdn (pc2 := 249) C en hdn dL_asks_248 rfl (show 4 + c < 6 by omega) (by decide) f2 rfl ?_
                refine z_icmp_ge (tgt := 254) (pc2 := 252) C dL_asks_249 (by decide) rfl (fun qc => ?_) (fun qc => ?_)
                · skip
                  refine z_aload_n (pc2 := 255) C dL_asks_254 2 rfl rfl rfl ?_
                  refine z_iconst (pc2 := 256) (v := 4) C dL_asks_255 (by decide) rfl ?_
                  refine z_iload_n (pc2 := 257) C dL_asks_256 4 rfl rfl rfl ?_
                  refine z_iadd (pc2 := 258) C dL_asks_257 rfl ?_
                  refine z_vec (st2 := [.int (nI (4 + c)), .ref nn]) (by rw [show (4 : Int32) = nI 4 from rfl, nI_add]) ?_
                  refine z_aload_n (pc2 := 259) C dL_asks_258 1 rfl rfl rfl ?_
                  refine z_iload_n (pc2 := 260) C dL_asks_259 4 rfl rfl rfl ?_
                  refine z_cR (rest := [.int (nI (4 + c)), .ref nn]) (pc2 := 263) (cu2 := cu + 2958 + 1) (su2 := su + 17748 + 6) C eo hd (Nat.le_of_ble_eq_true rfl) kmX10_lastFinal rfl kk_L_61 (r_last hok eo hd h2 hc) rfl rfl (Nat.le_of_ble_eq_true rfl) ⟨(Nat.le_of_ble_eq_true rfl), (Nat.le_of_ble_eq_true rfl)⟩ ⟨by show cu + 2958 + 1 ≤ 6000; omega, by show su + 17748 + 6 ≤ 36000; omega⟩ dL_asks_260 rfl rfl rfl ?_
                  refine z_cu (cu2 := cu + 2959) (su2 := su + 17754) (by omega) (by omega) ?_
                  refine z_iastn (pc2 := 264) C en hdn dL_asks_263 rfl (show 4 + c < 6 by omega) (by decide) rfl ?_
                  exact z_sub (lv2 := [(0, .ref o), (1, .ref nn), (2, .int y), (3, .int (nI c))]) C [1, 2, 3, 4] rfl (z_wid (by omega) (by omega) (k _ (hI2.note hc) (fun e j => by rw [I_ne (by decide)]; exact hkl 2018 e j (Or.inr rfl))))
                · skip
                  exact absurd (nI_le f1 (by omega)) qc
          · skip
            exact absurd (nI_le (a := 0) (b := v) (by omega) (by omega)) qc
        · exact absurd (hx2.2.2 c hc _ fn3 hdr) (Int.lt_irrefl _)
set_option maxRecDepth 20000 in
theorem t_asks {G : XG} (hok : XK G) {o nn : Nat} (eo : ad G 10 0 = o) (en : ad G 2017 0 = nn) (hd : dm G 10 0) (hdn : dm G 2017 0) {D : XD} {Ω : XO} (hI : LI D Ω) {y : Int32} : PM G yL_asks cL_asks 8 (some FieldType.boolean) (RM 17 6000) [.ref o, .ref nn, .int y] Ω (fun v G' Ω' => G' = G ∧ v = .int 1 ∧ LI D Ω' ∧ ∀ e j, xI Ω' 2018 e j = xI Ω 2018 e j) := by
  refine p_start (lv := [(0, .ref o), (1, .ref nn), (2, .int y)]) (own := RL) hok (by decide +kernel) rfl (Nat.le_of_ble_eq_true rfl) rfl (fun B C hN E => ?_)
  refine z_iconst (pc2 := 1) (v := 0) C dL_asks_0 rfl rfl ?_
  refine z_istore_n (pc2 := 2) (lv2 := [(3, .int (nI 0)), (0, .ref o), (1, .ref nn), (2, .int y)]) C dL_asks_1 rfl (by decide) rfl rfl ?_
  refine z_iload_n (pc2 := 3) C dL_asks_2 0 rfl rfl rfl ?_
  refine z_iconst (pc2 := 4) (v := 2) C dL_asks_3 rfl rfl ?_
  refine z_icmp_ge (tgt := 270) (pc2 := 7) C dL_asks_4 (by decide) rfl (fun qc => absurd qc (by decide)) (fun _ => ?_)
  refine z_sub (lv2 := [(0, .ref o), (1, .ref nn), (2, .int y), (3, .int (nI 0))]) C [1, 2, 3, 0] rfl (asks_c C hN hok eo en hd hdn hI (c := 0) (by decide) (cu := 0) (su := 0) (by decide) (by decide) (fun Ω2 h2 k2 => ?_))
  refine z_iinc (pc2 := 267) (lv2 := [(3, .int (nI 1)), (0, .ref o), (1, .ref nn), (2, .int y)]) C dL_asks_264 3 rfl (nI_1 0) (by decide) rfl rfl ?_
  refine z_goto (tgt := 2) C dL_asks_267 (by decide) ?_
  refine z_iload_n (pc2 := 3) C dL_asks_2 0 rfl rfl rfl ?_
  refine z_iconst (pc2 := 4) (v := 2) C dL_asks_3 rfl rfl ?_
  refine z_icmp_ge (tgt := 270) (pc2 := 7) C dL_asks_4 (by decide) rfl (fun qc => absurd qc (by decide)) (fun _ => ?_)
  refine z_sub (lv2 := [(0, .ref o), (1, .ref nn), (2, .int y), (3, .int (nI 1))]) C [1, 2, 3, 0] rfl (asks_c C hN hok eo en hd hdn h2 (c := 1) (by decide) (cu := 0 + 2960) (su := 0 + 17760) (by decide) (by decide) (fun Ω3 h3 k3 => ?_))
  refine z_iinc (pc2 := 267) (lv2 := [(3, .int (nI 2)), (0, .ref o), (1, .ref nn), (2, .int y)]) C dL_asks_264 3 rfl (nI_1 1) (by decide) rfl rfl ?_
  refine z_goto (tgt := 2) C dL_asks_267 (by decide) ?_
  refine z_iload_n (pc2 := 3) C dL_asks_2 0 rfl rfl rfl ?_
  refine z_iconst (pc2 := 4) (v := 2) C dL_asks_3 rfl rfl ?_
  refine z_icmp_ge (tgt := 270) (pc2 := 7) C dL_asks_4 (by decide) rfl (fun _ => ?_) (fun qc => absurd (show (2 : Int32) ≤ nI 2 by decide) qc)
  refine z_iconst (pc2 := 271) (v := 1) C dL_asks_270 rfl rfl ?_
  exact p_zreturn C E (gs.rf hok) dL_asks_271 rfl (Or.inr rfl) (Nat.le_of_ble_eq_true rfl) (Nat.le_of_ble_eq_true rfl) ⟨rfl, rfl, h3, fun e j => (k3 e j).trans (k2 e j)⟩
