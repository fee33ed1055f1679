def tMake (Ω : XO) (x1 x2 x3 : Int32) : Option Int32 := (fX11_isBlock Ω x1 x2).bind (fun r_1 => (((if r_1 = 0 then (some (0 : Int32)) else (fX11_in Ω x3 (0 : Int32) (5 : Int32)).bind (fun r_4 => (if r_4 = 0 then (some (0 : Int32)) else (some (1 : Int32))))) : Option (Int32))))
def sMake (Ω : XO) (x1 x2 j_2 : Int32) : Option Int32 := (((if j_2 = 0 then (some (0 : Int32)) else (if inB x1 2 then (if (xI Ω 2109 0 x1.toNatClampNeg) = (24 : Int32) then (some (1 : Int32)) else (if inB (((24 : Int32) * x1) + x2) 48 then (if (xI Ω 2126 0 (((24 : Int32) * x1) + x2).toNatClampNeg) = (1 : Int32) then (some (1 : Int32)) else (some (0 : Int32))) else none)) else none)) : Option (Int32)))
def rMake (Ω : XO) (x4 j_2 j_6 : Int32) : Option Int32 := (((if j_2 = 0 then (some (1 : Int32)) else (fX11_in Ω x4 (1 : Int32) (9 : Int32)).bind (fun r_16 => (if r_16 = 0 then (some (2 : Int32)) else (if j_6 = 0 then (some (0 : Int32)) else (some (3 : Int32)))))) : Option (Int32)))
theorem mMake_eq (Ω : XO) (x1 x2 x3 x4 : Int32) : fX11_make Ω x1 x2 x3 x4 = (tMake Ω x1 x2 x3).bind (fun j_2 => (sMake Ω x1 x2 j_2).bind (fun j_6 => (rMake Ω x4 j_2 j_6).bind (fun j_14 => (fX11_holds Ω j_14).bind (fun r_19 => if r_19.1 = 0 then eMake r_19.2 x1 x2 x3 x4 else some ((-1 : Int32), r_19.2))))) := by
  unfold fX11_make tMake
  rw [Option.bind_assoc]
  rfl
theorem mky_mk {k : Nat} (h : mky k = true) : scr k = false ∧ mkC.contains k = false := by
  unfold mky at h
  have h2 := List.contains_iff_mem.mp h
  simp only [List.mem_cons, List.not_mem_nil, or_false] at h2
  rcases h2 with rfl | h2
  · decide
  repeat (rcases h2 with rfl | h2; · decide)
theorem cky_mk {k : Nat} (h : cky k = true) : scr k = false ∧ mkM.contains k = false ∧ k ≠ 1160 := by
  unfold cky at h
  have h2 := List.contains_iff_mem.mp h
  simp only [List.mem_cons, List.not_mem_nil, or_false] at h2
  rcases h2 with rfl | h2
  · decide
  repeat (rcases h2 with rfl | h2; · decide)
theorem mkl_mk {k : Nat} (h : mkl k = true) : k ≠ 605 ∧ k ≠ 17 := ⟨fun z => by subst z; exact absurd h (by decide), fun z => by subst z; exact absurd h (by decide)⟩
theorem ckl_mk {k : Nat} (h : ckl k = true) : k ≠ 2123 := fun z => by subst z; exact absurd h (by decide)
