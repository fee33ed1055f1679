theorem kcs : Cond.static arraycopyName ∈ lw_g := lw_in4 6 (by decide +kernel) rfl
theorem kcn : Cond.native arraycopyName ∈ lw_g := lw_in4 7 (by decide +kernel) rfl
theorem kci : Cond.initialized "java/lang/System" ∈ lw_g := lw_in1 19 (by decide +kernel) rfl
theorem kmi : Cond.initialized "java/lang/Math" ∈ lw_g := lw_in1 18 (by decide +kernel) rfl
theorem kms_max : Cond.static Lib.Math.max.name ∈ lw_g := lw_in3 239 (by decide +kernel) rfl
theorem kmc_max : Cond.code Lib.Math.max.name Lib.Math.max.code 2 (some .int) ∈ lw_g := lw_in4 0 (by decide +kernel) rfl
theorem kmath_0_57 : Cond.methodLink RX0 57 Lib.Math.max.name ∈ lw_g := lw_in3 238 (by decide +kernel) rfl
theorem kmath_3_78 : Cond.methodLink RX3 78 Lib.Math.max.name ∈ lw_g := lw_in4 161 (by decide +kernel) rfl
theorem kms_min : Cond.static Lib.Math.min.name ∈ lw_g := lw_in4 30 (by decide +kernel) rfl
theorem kmc_min : Cond.code Lib.Math.min.name Lib.Math.min.code 2 (some .int) ∈ lw_g := lw_in4 31 (by decide +kernel) rfl
theorem kmath_7_58 : Cond.methodLink RX7 58 Lib.Math.min.name ∈ lw_g := lw_in4 29 (by decide +kernel) rfl
theorem kmath_4_106 : Cond.methodLink RX4 106 Lib.Math.min.name ∈ lw_g := lw_in4 180 (by decide +kernel) rfl
theorem kmath_8_26 : Cond.methodLink RX8 26 Lib.Math.min.name ∈ lw_g := lw_in4 232 (by decide +kernel) rfl
theorem x_tout {x : Int32} {lo hi : Int} (h : ∀ v : Int, lo ≤ v → v ≤ hi → ¬ x = Int32.ofInt v) : x.toInt < lo ∨ hi < x.toInt := by
  rcases Int.lt_or_le x.toInt lo with h1 | h1
  · exact Or.inl h1
  · rcases Int.lt_or_le hi x.toInt with h2 | h2
    · exact Or.inr h2
    · exact absurd (by simp) (h x.toInt h1 h2)
