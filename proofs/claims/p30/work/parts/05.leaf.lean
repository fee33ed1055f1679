theorem x_in {j : Int32} {n : Nat} (h1 : ¬ j < 0) (h2 : ¬ nI n ≤ j) (hn : n < 2 ^ 31) : vp_in j n := by
  intro h
  rcases h with h | h
  · exact h1 h
  · obtain ⟨k, hk, rfl⟩ := nI_of h1
    rw [nI_clamp hk] at h
    exact h2 (nI_le h hk)
theorem x_in3 {j : Int32} {n : Nat} (h1 : ¬ j < 0) (h2 : j < nI n) (hn : n < 2 ^ 31) : vp_in j n := x_in h1 (Int32.not_le.mpr h2) hn
theorem x_in2 {j v : Int32} {n : Nat} (h1 : ¬ j < 0) (h2 : ¬ v ≤ j) (hv : v.toInt = (n : Int)) : vp_in j n := by
  rw [vp_in_iff]
  rw [Int32.lt_iff_toInt_lt] at h1
  rw [Int32.le_iff_toInt_le] at h2
  have h3 : (0 : Int32).toInt = 0 := rfl
  omega
theorem XC_to {G : XG} {B : XB} {cc : ByteArray} {own : String} {rm : Room} {nL : Nat} {ret : Option FieldType} {T T2 : Option Value ⊕ String} {Ω9 Ω2 : XO} (C : XC G B cc own rm nL ret T Ω9) (h1 : T = T2) (h2 : Ω9 = Ω2) : XC G B cc own rm nL ret T2 Ω2 := h1 ▸ h2 ▸ C
theorem x_lt {V : Int32} {k : Nat} (hk : k ≤ V.toNatClampNeg) (h : ¬ V ≤ nI k) : k < V.toNatClampNeg := by
  have h1 : V.toNatClampNeg < 2 ^ 31 := by have := Int32.toInt_lt V; show V.toInt.toNat < 2 ^ 31; omega
  rw [Int32.le_iff_toInt_le, nI_toInt (by omega)] at h
  show k < V.toInt.toNat
  omega
theorem x_lt2 {V : Int32} {k : Nat} (hk : k ≤ V.toNatClampNeg) (h : nI k < V) : k < V.toNatClampNeg := x_lt hk (fun h2 => absurd h (Int32.not_lt.mpr h2))
theorem x_inK {k N : Nat} (hk : k ≤ (nI N).toNatClampNeg) (h : ¬ nI N ≤ nI k) : vp_in (nI k) N := by
  have h1 := x_lt hk h
  have h2 : (nI N).toNatClampNeg < 2 ^ 31 := by have := Int32.toInt_lt (nI N); show (nI N).toInt.toNat < 2 ^ 31; omega
  rw [vp_in_iff, nI_toInt (by omega)]
  rw [Int32.le_iff_toInt_le, nI_toInt (n := k) (by omega)] at h
  refine ⟨by omega, ?_⟩
  rcases Nat.lt_or_ge N (2 ^ 31) with q | q
  · rw [nI_toInt q] at h
    omega
  · omega
def sAt (Ω : XO) (k i : Nat) (j : Int32) : Int32 := if j < 0 then 0 else if nI (alen k) ≤ j then 0 else xI Ω k i j.toNatClampNeg
def sTb (q : Nat) (j : Int32) : Int32 := if j < 0 then 0 else if nI 25 ≤ j then 0 else (sArr q).getD j.toNatClampNeg 0
def sPut (Ω : XO) (k i : Nat) (j v : Int32) : XO := if j < 0 then Ω else if nI (alen k) ≤ j then Ω else uI Ω k i j.toNatClampNeg v
def sMixL (p q : Int64) : Int32 := (31 * p + 17 * q + 7 - (31 * p + 17 * q + 7) / 1000003 * 1000003).toInt32
def sMix (p q : Int32) : Int32 := sMixL p.toInt64 q.toInt64
def sJoin (place node neighbour : Int32) : Int32 := if place &&& 1 = 0 then sMix node neighbour else sMix neighbour node
set_option maxRecDepth 20000 in
theorem tX10_at {G : XG} (hok : XK G) {k i : Nat} {j : Int32} {Ω : XO} (hd : dm G k i) (hs : sA 0 k = true) (hn : alen k < 2 ^ 31) : XM G yX10_at cX10_at 2 (some FieldType.int) (RM 0 0) [.ref (ad G k i), .int j] Ω (.inl (some (.int (sAt Ω k i j)))) Ω := by
  have hk1 : Nat.ble 2000 k = true := Nat.ble_eq_true_of_le (sak hs).1
  have hty : (tysOf G)[aty k]? = some (gC G (aty k), .int) := by rw [(sak hs).2]; rfl
  refine x_start (lv := [(0, .ref (ad G k i)), (1, .int j)]) (own := RX10) hok (by decide +kernel) rfl (Nat.le_of_ble_eq_true rfl) rfl (fun B C => ?_)
  refine x_iload_n (pc2 := 1) C dX10_at_0 1 rfl rfl rfl ?_
  refine x_if_lt (tgt := 16) (pc2 := 4) C dX10_at_1 (by decide) rfl (fun qc_1 => ?_) (fun qc_1 => ?_)
  · refine x_iconst (pc2 := 17) (v := 0) C dX10_at_16 rfl rfl ?_
    exact x_ireturn C dX10_at_17 rfl (Nat.le_of_ble_eq_true rfl) (Nat.le_of_ble_eq_true rfl) (by  simp [sAt, qc_1]) (by  simp [sAt, qc_1])
  · refine x_iload_n (pc2 := 5) C dX10_at_4 1 rfl rfl rfl ?_
    refine x_aload_n (pc2 := 6) C dX10_at_5 0 rfl rfl rfl ?_
    refine x_alen C hd dX10_at_6 hk1 hty rfl ?_
    refine x_icmp_ge (tgt := 16) (pc2 := 10) C dX10_at_7 (by decide) rfl (fun qc_2 => ?_) (fun qc_2 => ?_)
    · refine x_iconst (pc2 := 17) (v := 0) C dX10_at_16 rfl rfl ?_
      exact x_ireturn C dX10_at_17 rfl (Nat.le_of_ble_eq_true rfl) (Nat.le_of_ble_eq_true rfl) (by  simp [sAt, qc_1, qc_2]) (by  simp [sAt, qc_1, qc_2])
    · refine x_aload_n (pc2 := 11) C dX10_at_10 0 rfl rfl rfl ?_
      refine x_iload_n (pc2 := 12) C dX10_at_11 1 rfl rfl rfl ?_
      refine x_iald C hd dX10_at_12 hs (x_in qc_1 qc_2 hn) rfl ?_
      refine x_goto (tgt := 17) C dX10_at_13 (by decide) ?_
      exact x_ireturn C dX10_at_17 rfl (Nat.le_of_ble_eq_true rfl) (Nat.le_of_ble_eq_true rfl) (by  simp [sAt, qc_1, qc_2]) (by  simp [sAt, qc_1, qc_2])
set_option maxRecDepth 20000 in
theorem tX10_at_s {G : XG} (hok : XK G) {q : Nat} {j : Int32} {Ω : XO} (hq : q < 4) : XM G yX10_at cX10_at 2 (some FieldType.int) (RM 0 0) [.ref (gT G q), .int j] Ω (.inl (some (.int (sTb q j)))) Ω := by
  refine x_start (lv := [(0, .ref (gT G q)), (1, .int j)]) (own := RX10) hok (by decide +kernel) rfl (Nat.le_of_ble_eq_true rfl) rfl (fun B C => ?_)
  refine x_iload_n (pc2 := 1) C dX10_at_0 1 rfl rfl rfl ?_
  refine x_if_lt (tgt := 16) (pc2 := 4) C dX10_at_1 (by decide) rfl (fun qc_1 => ?_) (fun qc_1 => ?_)
  · refine x_iconst (pc2 := 17) (v := 0) C dX10_at_16 rfl rfl ?_
    exact x_ireturn C dX10_at_17 rfl (Nat.le_of_ble_eq_true rfl) (Nat.le_of_ble_eq_true rfl) (by  simp [sTb, qc_1]) (by  simp [sTb, qc_1])
  · refine x_iload_n (pc2 := 5) C dX10_at_4 1 rfl rfl rfl ?_
    refine x_aload_n (pc2 := 6) C dX10_at_5 0 rfl rfl rfl ?_
    refine x_tlen C hq dX10_at_6 rfl ?_
    refine x_icmp_ge (tgt := 16) (pc2 := 10) C dX10_at_7 (by decide) rfl (fun qc_2 => ?_) (fun qc_2 => ?_)
    · refine x_iconst (pc2 := 17) (v := 0) C dX10_at_16 rfl rfl ?_
      exact x_ireturn C dX10_at_17 rfl (Nat.le_of_ble_eq_true rfl) (Nat.le_of_ble_eq_true rfl) (by  simp [sTb, qc_1, qc_2]) (by  simp [sTb, qc_1, qc_2])
    · refine x_aload_n (pc2 := 11) C dX10_at_10 0 rfl rfl rfl ?_
      refine x_iload_n (pc2 := 12) C dX10_at_11 1 rfl rfl rfl ?_
      refine x_tald C hq dX10_at_12 (x_in qc_1 qc_2 (by decide)) rfl ?_
      refine x_goto (tgt := 17) C dX10_at_13 (by decide) ?_
      exact x_ireturn C dX10_at_17 rfl (Nat.le_of_ble_eq_true rfl) (Nat.le_of_ble_eq_true rfl) (by  simp [sTb, qc_1, qc_2]) (by  simp [sTb, qc_1, qc_2])
set_option maxRecDepth 20000 in
theorem tX10_put {G : XG} (hok : XK G) {k i : Nat} {j v : Int32} {Ω : XO} (hd : dm G k i) (hs : sA 0 k = true) (hn : alen k < 2 ^ 31) : XM G yX10_put cX10_put 3 none (RM 0 0) [.ref (ad G k i), .int j, .int v] Ω (.inl none) (sPut Ω k i j v) := by
  have hk1 : Nat.ble 2000 k = true := Nat.ble_eq_true_of_le (sak hs).1
  have hty : (tysOf G)[aty k]? = some (gC G (aty k), .int) := by rw [(sak hs).2]; rfl
  refine x_start (lv := [(0, .ref (ad G k i)), (1, .int j), (2, .int v)]) (own := RX10) hok (by decide +kernel) rfl (Nat.le_of_ble_eq_true rfl) rfl (fun B C => ?_)
  refine x_iload_n (pc2 := 1) C dX10_put_0 1 rfl rfl rfl ?_
  refine x_if_lt (tgt := 14) (pc2 := 4) C dX10_put_1 (by decide) rfl (fun qc_1 => ?_) (fun qc_1 => ?_)
  · exact x_vreturn C dX10_put_14 rfl (Nat.le_of_ble_eq_true rfl) (Nat.le_of_ble_eq_true rfl) rfl (by  simp [sPut, qc_1])
  · refine x_iload_n (pc2 := 5) C dX10_put_4 1 rfl rfl rfl ?_
    refine x_aload_n (pc2 := 6) C dX10_put_5 0 rfl rfl rfl ?_
    refine x_alen C hd dX10_put_6 hk1 hty rfl ?_
    refine x_icmp_ge (tgt := 14) (pc2 := 10) C dX10_put_7 (by decide) rfl (fun qc_2 => ?_) (fun qc_2 => ?_)
    · exact x_vreturn C dX10_put_14 rfl (Nat.le_of_ble_eq_true rfl) (Nat.le_of_ble_eq_true rfl) rfl (by  simp [sPut, qc_1, qc_2])
    · refine x_aload_n (pc2 := 11) C dX10_put_10 0 rfl rfl rfl ?_
      refine x_iload_n (pc2 := 12) C dX10_put_11 1 rfl rfl rfl ?_
      refine x_iload_n (pc2 := 13) C dX10_put_12 2 rfl rfl rfl ?_
      refine x_iast C hd dX10_put_13 hs (x_in qc_1 qc_2 hn) rfl ?_
      exact x_vreturn C dX10_put_14 rfl (Nat.le_of_ble_eq_true rfl) (Nat.le_of_ble_eq_true rfl) rfl (by  simp [sPut, qc_1, qc_2])
set_option maxRecDepth 20000 in
theorem tX10_mix {G : XG} (hok : XK G) {p q : Int32} {Ω : XO} : XM G yX10_mix cX10_mix 2 (some FieldType.int) (RM 0 0) [.int p, .int q] Ω (.inl (some (.int (sMix p q)))) Ω := by
  refine x_start (lv := [(0, .int p), (1, .int q)]) (own := RX10) hok (by decide +kernel) rfl (Nat.le_of_ble_eq_true rfl) rfl (fun B C => ?_)
  refine x_ldc2 (pc2 := 3) C kc_10_257 dX10_mix_0 rfl ?_
  refine x_iload_n (pc2 := 4) C dX10_mix_3 0 rfl rfl rfl ?_
  refine x_i2l (pc2 := 5) C dX10_mix_4 rfl ?_
  refine x_lmul (pc2 := 6) C dX10_mix_5 rfl ?_
  refine x_ldc2 (pc2 := 9) C kc_10_259 dX10_mix_6 rfl ?_
  refine x_iload_n (pc2 := 10) C dX10_mix_9 1 rfl rfl rfl ?_
  refine x_i2l (pc2 := 11) C dX10_mix_10 rfl ?_
  refine x_lmul (pc2 := 12) C dX10_mix_11 rfl ?_
  refine x_ladd (pc2 := 13) C dX10_mix_12 rfl ?_
  refine x_ldc2 (pc2 := 16) C kc_10_261 dX10_mix_13 rfl ?_
  refine x_ladd (pc2 := 17) C dX10_mix_16 rfl ?_
  refine x_ldc2 (pc2 := 20) C kc_10_263 dX10_mix_17 rfl ?_
  refine x_lrem (pc2 := 21) C dX10_mix_20 (by decide) rfl ?_
  refine x_l2i (pc2 := 22) C dX10_mix_21 rfl ?_
  exact x_ireturn C dX10_mix_22 rfl (Nat.le_of_ble_eq_true rfl) (Nat.le_of_ble_eq_true rfl) rfl rfl
set_option maxRecDepth 20000 in
theorem tX10_join {G : XG} (hok : XK G) {p n q : Int32} {Ω : XO} : XM G yX10_join cX10_join 3 (some FieldType.int) (RM 1 0) [.int p, .int n, .int q] Ω (.inl (some (.int (sJoin p n q)))) Ω := by
  refine x_start (lv := [(0, .int p), (1, .int n), (2, .int q)]) (own := RX10) hok (by decide +kernel) rfl (Nat.le_of_ble_eq_true rfl) rfl (fun B C => ?_)
  refine x_iload_n (pc2 := 1) C dX10_join_0 0 rfl rfl rfl ?_
  refine x_iconst (pc2 := 2) (v := 1) C dX10_join_1 rfl rfl ?_
  refine x_iand (pc2 := 3) C dX10_join_2 rfl ?_
  refine x_if_ne (tgt := 14) (pc2 := 6) C dX10_join_3 (by decide) rfl (fun qc_1 => ?_) (fun qc_1 => ?_)
  · refine x_iload_n (pc2 := 15) C dX10_join_14 2 rfl rfl rfl ?_
    refine x_iload_n (pc2 := 16) C dX10_join_15 1 rfl rfl rfl ?_
    refine x_ret (rest := []) (st2 := [_]) (pc2 := 19) (cu2 := 0) (su2 := 0) (x_cS C kmX10_mix kk_10_265 (tX10_mix hok) rfl rfl (Nat.le_of_ble_eq_true rfl) ⟨Nat.le_of_ble_eq_true rfl, Nat.le_of_ble_eq_true rfl⟩ ⟨Nat.le_of_ble_eq_true rfl, Nat.le_of_ble_eq_true rfl⟩ dX10_join_16) rfl rfl rfl rfl ?_
    exact x_ireturn C dX10_join_19 rfl (Nat.le_of_ble_eq_true rfl) (Nat.le_of_ble_eq_true rfl) (by  simp [sJoin, qc_1]) (by  simp [sJoin, qc_1])
  · refine x_iload_n (pc2 := 7) C dX10_join_6 1 rfl rfl rfl ?_
    refine x_iload_n (pc2 := 8) C dX10_join_7 2 rfl rfl rfl ?_
    refine x_ret (rest := []) (st2 := [_]) (pc2 := 11) (cu2 := 0) (su2 := 0) (x_cS C kmX10_mix kk_10_265 (tX10_mix hok) rfl rfl (Nat.le_of_ble_eq_true rfl) ⟨Nat.le_of_ble_eq_true rfl, Nat.le_of_ble_eq_true rfl⟩ ⟨Nat.le_of_ble_eq_true rfl, Nat.le_of_ble_eq_true rfl⟩ dX10_join_8) rfl rfl rfl rfl ?_
    refine x_goto (tgt := 19) C dX10_join_11 (by decide) ?_
    exact x_ireturn C dX10_join_19 rfl (Nat.le_of_ble_eq_true rfl) (Nat.le_of_ble_eq_true rfl) (by  simp [sJoin, qc_1]) (by  simp [sJoin, qc_1])
