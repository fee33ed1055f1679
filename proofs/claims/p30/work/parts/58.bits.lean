theorem nI_and31 : ∀ n, n < 32 → ((nI n &&& 31).toBitVec.smod 32) = BitVec.ofNat 32 n := by decide +kernel
theorem nI_and63 : ∀ n, n < 64 → (((nI n).toInt64 &&& 63).toBitVec.smod 64) = BitVec.ofNat 64 n := by decide +kernel
theorem and1_32 (y : BitVec 32) : y &&& 1#32 = 1#32 ↔ y.getLsbD 0 = true := by
  rw [BitVec.and_one_eq_setWidth_ofBool_getLsbD]
  cases y.getLsbD 0 <;> decide
theorem and1_64 (y : BitVec 64) : y &&& 1#64 = 1#64 ↔ y.getLsbD 0 = true := by
  rw [BitVec.and_one_eq_setWidth_ofBool_getLsbD]
  cases y.getLsbD 0 <;> decide
theorem b32_iff {x : Int32} {n : Nat} (hn : n < 32) : b32 x n ↔ x.toBitVec.getLsbD n = true := by
  unfold b32
  rw [← Int32.toBitVec_inj, Int32.toBitVec_and, Int32.toBitVec_shiftRight, nI_and31 n hn]
  have e : (1 : Int32).toBitVec = 1#32 := rfl
  rw [e, and1_32, BitVec.sshiftRight_eq', BitVec.getLsbD_sshiftRight, BitVec.toNat_ofNat, Nat.mod_eq_of_lt (by omega)]
  have h1 : n + 0 < 32 := by omega
  simp [hn]
theorem b64_iff {x : Int64} {n : Nat} (hn : n < 64) : b64 x n ↔ x.toBitVec.getLsbD n = true := by
  unfold b64
  rw [← Int64.toBitVec_inj, Int64.toBitVec_and, Int64.toBitVec_shiftRight, nI_and63 n hn]
  have e : (1 : Int64).toBitVec = 1#64 := rfl
  rw [e, and1_64, BitVec.sshiftRight_eq', BitVec.getLsbD_sshiftRight, BitVec.toNat_ofNat, Nat.mod_eq_of_lt (by omega)]
  simp [hn]
theorem one32 : ∀ t, t < 32 → ∀ u, u < 32 → ((1 : Int32) <<< (nI t &&& 31)).toBitVec.getLsbD u = decide (u = t) := by decide +kernel
theorem one64 : ∀ t, t < 64 → ∀ u, u < 64 → ((1 : Int64) <<< ((nI t).toInt64 &&& 63)).toBitVec.getLsbD u = decide (u = t) := by decide +kernel
theorem b32_set {x : Int32} {t u : Nat} (ht : t < 32) (hu : u < 32) : b32 (x ||| ((1 : Int32) <<< (nI t &&& 31))) u ↔ b32 x u ∨ u = t := by
  rw [b32_iff hu, b32_iff hu, Int32.toBitVec_or, BitVec.getLsbD_or, one32 t ht u hu, Bool.or_eq_true, decide_eq_true_iff]
theorem b64_set {x : Int64} {t u : Nat} (ht : t < 64) (hu : u < 64) : b64 (x ||| ((1 : Int64) <<< ((nI t).toInt64 &&& 63))) u ↔ b64 x u ∨ u = t := by
  rw [b64_iff hu, b64_iff hu, Int64.toBitVec_or, BitVec.getLsbD_or, one64 t ht u hu, Bool.or_eq_true, decide_eq_true_iff]
theorem b32_or {x y : Int32} {u : Nat} (hu : u < 32) : b32 (x ||| y) u ↔ b32 x u ∨ b32 y u := by
  rw [b32_iff hu, b32_iff hu, b32_iff hu, Int32.toBitVec_or, BitVec.getLsbD_or, Bool.or_eq_true]
theorem b64_or {x y : Int64} {u : Nat} (hu : u < 64) : b64 (x ||| y) u ↔ b64 x u ∨ b64 y u := by
  rw [b64_iff hu, b64_iff hu, b64_iff hu, Int64.toBitVec_or, BitVec.getLsbD_or, Bool.or_eq_true]
