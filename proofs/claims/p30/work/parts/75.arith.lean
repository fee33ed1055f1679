theorem nI_subI {a b : Nat} (h : b ≤ a) : nI a - nI b = nI (a - b) := by
  have : nI a = nI (a - b) + nI b := by rw [nI_add, Nat.sub_add_cancel h]
  rw [this, Int32.add_sub_cancel]
theorem rem_nI {n m : Nat} (hn : n < 2147483648) (h0 : 0 < m) (hm : m < 2147483648) : nI n - nI n / nI m * nI m = nI (n % m) := by
  have h1 : n % m ≤ n := Nat.mod_le n m
  rw [ti_eq, ti_rem (by rw [ti_nI hn]; omega) (by rw [ti_nI hm]; omega), ti_nI hn, ti_nI hm, ti_nI (by omega)]
  omega
theorem div_nI {n m : Nat} (hn : n < 2147483648) (h0 : 0 < m) (hm : m < 2147483648) : nI n / nI m = nI (n / m) := by
  have h1 : n / m ≤ n := Nat.div_le_self n m
  rw [ti_eq, ti_div (by rw [ti_nI hn]; omega) (by rw [ti_nI hm]; omega), ti_nI hn, ti_nI hm, ti_nI (by omega)]
  omega
theorem bm64 {x : Int} (h1 : -9223372036854775808 ≤ x) (h2 : x < 9223372036854775808) : x.bmod (2 ^ 64) = x := by
  have e : ((2 ^ 64 : Nat) : Int) = 18446744073709551616 := by decide
  rw [Int.bmod_def, e]
  split <;> omega
theorem tL {n : Nat} (h : n < 9223372036854775808) : (lN n).toInt = (n : Int) := lg_ofNat_toInt (by omega)
theorem rem_lN {n m : Nat} (hn : n < 9223372036854775808) (h0 : 0 < m) (hm : m < 2147483648) : lN n - lN n / lN m * lN m = lN (n % m) := by
  have e1 : lN n / lN m = lN (n / m) := by
    have h1 : n / m ≤ n := Nat.div_le_self n m
    apply Int64.toInt_inj.mp
    have h2 : (0 : Int) ≤ (n : Int) / (m : Int) := Int.ediv_nonneg (by omega) (by omega)
    have h3 : (n : Int) / (m : Int) ≤ (n : Int) := Int.ediv_le_self _ (by omega)
    rw [Int64.toInt_div, tL hn, tL (by omega), tL (by omega), Int.tdiv_eq_ediv_of_nonneg (by omega), bm64 (by omega) (by omega)]
    exact (Int.natCast_ediv n m).symm
  rw [e1, lN_mul, lN_sub (by exact Nat.div_mul_le_self n m)]
  congr 1
  have h2 := Nat.div_add_mod n m
  rw [Nat.mul_comm] at h2
  omega
theorem mul6 {a b : Nat} (ha : a < 1000000) (hb : b < 1000000) : (((nI a).toInt64 * (nI b).toInt64) - ((nI a).toInt64 * (nI b).toInt64) / (1000000 : Int64) * (1000000 : Int64)).toInt32 = nI (a * b % 1000000) := by
  have h1 : a * b < 1000000 * 1000000 := Nat.mul_lt_mul'' ha hb
  rw [nI_l (by omega), nI_l (by omega), lN_mul, show (1000000 : Int64) = lN 1000000 from rfl, rem_lN (by omega) (by decide) (by decide), lN_i]
theorem sub6 {a b : Nat} (ha : a < 1000000) (hb : b < 1000000) : ((nI a - nI b) + (1000000 : Int32)) - ((nI a - nI b) + (1000000 : Int32)) / (1000000 : Int32) * (1000000 : Int32) = nI ((a + 1000000 - b) % 1000000) := by
  have e : (nI a - nI b) + (1000000 : Int32) = nI (a + 1000000 - b) := by
    have e1 : (1000000 : Int32).toInt = 1000000 := rfl
    have e2 : (nI a - nI b).toInt = (a : Int) - b := by rw [ti_sub (by rw [ti_nI (by omega), ti_nI (by omega)]; omega) (by rw [ti_nI (by omega), ti_nI (by omega)]; omega), ti_nI (by omega), ti_nI (by omega)]
    rw [ti_eq, ti_add (by rw [e1, e2]; omega) (by rw [e1, e2]; omega), e1, e2, ti_nI (by omega)]
    omega
  rw [e, show (1000000 : Int32) = nI 1000000 from rfl, rem_nI (by omega) (by decide) (by decide)]
theorem xor_pos {x y : Int32} (hy : 0 ≤ y.toInt) : 0 ≤ x ^^^ y ↔ 0 ≤ x.toInt := by
  have e : ∀ z : Int32, z.toBitVec.msb = decide (z.toInt < 0) := fun z => BitVec.msb_eq_toInt
  have h1 : (x ^^^ y).toBitVec.msb = x.toBitVec.msb := by
    rw [Int32.toBitVec_xor, BitVec.msb_xor, e y, decide_eq_false (by omega), Bool.xor_false]
  rw [e, e] at h1
  rw [ti_le]
  have e0 : (0 : Int32).toInt = 0 := rfl
  rw [e0]
  by_cases q : x.toInt < 0
  · rw [decide_eq_true q] at h1
    have := of_decide_eq_true h1
    omega
  · rw [decide_eq_false q] at h1
    have := of_decide_eq_false h1
    omega
theorem fmod6 {Ω : XO} {a b : Nat} (ha : a < 1000000) (hb : b < 1000000) : fJ9_floorMod_7cf53 Ω (nI a - nI b) (1000000 : Int32) = nI ((a + 1000000 - b) % 1000000) := by
  have e1 : (1000000 : Int32).toInt = 1000000 := rfl
  have e2 : (nI a - nI b).toInt = (a : Int) - b := by rw [ti_sub (by rw [ti_nI (by omega), ti_nI (by omega)]; omega) (by rw [ti_nI (by omega), ti_nI (by omega)]; omega), ti_nI (by omega), ti_nI (by omega)]
  unfold fJ9_floorMod_7cf53
  by_cases q : b ≤ a
  · rw [if_pos ((xor_pos (by rw [e1]; omega)).mpr (by rw [e2]; omega)), nI_subI q, show (1000000 : Int32) = nI 1000000 from rfl, rem_nI (by omega) (by decide) (by decide)]
    congr 1
    omega
  · rw [if_neg (fun z => by have := (xor_pos (by rw [e1]; omega)).mp z; rw [e2] at this; omega)]
    have hd : (nI a - nI b) / (1000000 : Int32) = 0 := by
      rw [ti_eq, Int32.toInt_div, e1, e2]
      have e3 : (a : Int) - b = -((b : Int) - a) := by omega
      rw [e3, Int.neg_tdiv, Int.tdiv_eq_zero_of_lt (by omega) (by omega)]
      rfl
    have hz : (nI a - nI b) - (0 : Int32) * (1000000 : Int32) = nI a - nI b := by
      rw [show (0 : Int32) * 1000000 = 0 from rfl]
      rw [ti_eq, ti_sub (by rw [e2]; show _ ≤ _ - (0 : Int); omega) (by rw [e2]; show _ - (0 : Int) < _; omega), e2]
      show _ - (0 : Int) = _
      omega
    rw [hd, hz, if_neg (fun z => by
      have : (nI a - nI b).toInt = (0 : Int32).toInt := by rw [z]
      rw [e2] at this
      have e0 : (0 : Int32).toInt = 0 := rfl
      omega)]
    rw [ti_eq, ti_add (by rw [e1, e2]; omega) (by rw [e1, e2]; omega), e1, e2, ti_nI (by omega)]
    omega
