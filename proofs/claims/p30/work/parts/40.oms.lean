/-- the reference's world at first -/
theorem init_some : (fX11_init oA).isSome = true := by decide +kernel
def oM : XO := (fX11_init oA).getD oA
theorem init_is : fX11_init oA = some oM := by
  have h := init_some
  unfold oM
  cases h1 : fX11_init oA with
  | none => rw [h1] at h; cases h
  | some r => rfl
/-- the world where the law's loop begins -/
def oS : XO := (fun f i j => if (1100 ≤ f ∧ f < 1200) ∨ 2100 ≤ f then oM.1 f i j else if f = 2017 then 0 else oI.1 f i j, fun f i j => if (1100 ≤ f ∧ f < 1200) ∨ 2100 ≤ f then oM.2.1 f i j else if f = 2017 then 0 else oI.2.1 f i j, fun f i => if (1100 ≤ f ∧ f < 1200) ∨ 2100 ≤ f then oM.2.2 f i else oI.2.2 f i)
