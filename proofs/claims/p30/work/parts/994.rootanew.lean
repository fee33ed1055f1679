theorem put48 {C : XO} {k a : Nat} {v : Int32} (ha : a < alen k) (hk : alen k < 2147483648) : sPut C k 48 (nI a) v = uI C k 48 a v := by
  unfold sPut
  rw [if_neg (nI_nlt0 (by omega)), if_neg (nI_ge ha hk), cl_nI (by omega)]
theorem drop_eq {C : XO} {a : Nat} (ha : a < 16) : fX6_dropProgram C 48 (nI a) = uI (uI (uI (uI (uI C 2013 48 a 0) 2014 48 (a * 4 + 0) 0) 2014 48 (a * 4 + (0 + 1)) 0) 2014 48 (a * 4 + (0 + 1 + 1)) 0) 2014 48 (a * 4 + (0 + 1 + 1 + 1)) 0 := by
  have p : ∀ (W : XO) (k : Nat), k < 4 → sPut W 2014 48 ((nI a * (4 : Int32)) + nI k) 0 = uI W 2014 48 (a * 4 + k) 0 := fun W k hk => by
    rw [show (4 : Int32) = nI 4 from rfl, nI_mul, nI_add]
    exact put48 (show a * 4 + k < alen 2014 from by show a * 4 + k < 64; omega) (by decide)
  unfold fX6_dropProgram
  rw [put48 (show a < alen 2013 from ha) (by decide)]
  show fX6_dropProgram_l 48 (nI a) 5 0 _ = _
  rw [fX6_dropProgram_l, if_neg (by decide), fX6_dropProgram_l, if_neg (by decide), fX6_dropProgram_l, if_neg (by decide), fX6_dropProgram_l, if_neg (by decide), fX6_dropProgram_l, if_pos (by decide), p _ 0 (by decide), p _ (0 + 1) (by decide), p _ (0 + 1 + 1) (by decide), p _ (0 + 1 + 1 + 1) (by decide)]
/-- the first k accounts are as at first -/
def FirI (C0 C : XO) (k : Nat) : Prop := (∀ f i j, ¬ (i = 48 ∧ (f = 2011 ∨ f = 2012 ∨ f = 2013 ∨ f = 2014)) → xI C f i j = xI C0 f i j) ∧ (∀ f i j, xL C f i j = xL C0 f i j) ∧ (∀ j, j < k → xI C 2011 48 j = (if j < 6 then 10000 else if j = 15 then 20000 else 0) ∧ xI C 2012 48 j = 0 ∧ xI C 2013 48 j = 0) ∧ ∀ j, j < 4 * k → xI C 2014 48 j = 0
theorem first_st {C0 C : XO} {k : Nat} (hk : k < 16) (h : FirI C0 C k) : FirI C0 (fX6_dropProgram (sPut (sPut C 2011 48 (nI k) (if k < 6 then 10000 else if k = 15 then 20000 else 0)) 2012 48 (nI k) 0) 48 (nI k)) (k + 1) := by
  obtain ⟨v, hv⟩ : ∃ v : Int32, v = if k < 6 then 10000 else if k = 15 then 20000 else 0 := ⟨_, rfl⟩
  rw [← hv, put48 (show k < alen 2011 from hk) (by decide), put48 (show k < alen 2012 from hk) (by decide), drop_eq hk]
  obtain ⟨h1, h2, h3, h4⟩ := h
  refine ⟨fun f i j hf => ?_, fun f i j => ?_, fun j hj => ⟨?_, ?_, ?_⟩, fun j hj => ?_⟩
  · rw [I_uI, if_neg (fun y => hf ⟨y.2.1, by omega⟩), I_uI, if_neg (fun y => hf ⟨y.2.1, by omega⟩), I_uI, if_neg (fun y => hf ⟨y.2.1, by omega⟩), I_uI, if_neg (fun y => hf ⟨y.2.1, by omega⟩), I_uI, if_neg (fun y => hf ⟨y.2.1, by omega⟩), I_uI, if_neg (fun y => hf ⟨y.2.1, by omega⟩), I_uI, if_neg (fun y => hf ⟨y.2.1, by omega⟩), h1 f i j hf]
  · rw [L_uI, L_uI, L_uI, L_uI, L_uI, L_uI, L_uI, h2]
  · rw [I_ne (by decide), I_ne (by decide), I_ne (by decide), I_ne (by decide), I_ne (by decide), I_ne (by decide), I_uI]
    by_cases z : j = k
    · rw [if_pos ⟨rfl, rfl, z⟩, hv, z]
    · rw [if_neg (fun y => z y.2.2)]
      exact (h3 j (by omega)).1
  · rw [I_ne (by decide), I_ne (by decide), I_ne (by decide), I_ne (by decide), I_ne (by decide), I_uI]
    by_cases z : j = k
    · rw [if_pos ⟨rfl, rfl, z⟩]
    · rw [if_neg (fun y => z y.2.2), I_ne (by decide)]
      exact (h3 j (by omega)).2.1
  · rw [I_ne (by decide), I_ne (by decide), I_ne (by decide), I_ne (by decide), I_uI]
    by_cases z : j = k
    · rw [if_pos ⟨rfl, rfl, z⟩]
    · rw [if_neg (fun y => z y.2.2), I_ne (by decide), I_ne (by decide)]
      exact (h3 j (by omega)).2.2
  · rw [I_uI]
    by_cases z3 : j = k * 4 + (0 + 1 + 1 + 1)
    · rw [if_pos ⟨rfl, rfl, z3⟩]
    · rw [if_neg (fun y => z3 y.2.2), I_uI]
      by_cases z2 : j = k * 4 + (0 + 1 + 1)
      · rw [if_pos ⟨rfl, rfl, z2⟩]
      · rw [if_neg (fun y => z2 y.2.2), I_uI]
        by_cases z1 : j = k * 4 + (0 + 1)
        · rw [if_pos ⟨rfl, rfl, z1⟩]
        · rw [if_neg (fun y => z1 y.2.2), I_uI]
          by_cases z0 : j = k * 4 + 0
          · rw [if_pos ⟨rfl, rfl, z0⟩]
          · rw [if_neg (fun y => z0 y.2.2), I_ne (by decide), I_ne (by decide), I_ne (by decide)]
            exact h4 j (by omega)
theorem first_l {C0 : XO} : ∀ (n k : Nat) (C : XO), k + n = 17 → k ≤ 16 → FirI C0 C k → ∃ C', fX6_becomeFirst_l 48 n k C = uL (uI C' 604 48 0 0) 605 48 0 0 ∧ FirI C0 C' 16 := by
  intro n
  induction n with
  | zero => intro k C h1 h2; exact absurd h1 (by omega)
  | succ n ih =>
    intro k C h1 h2 hC
    by_cases z : k = 16
    · subst z
      refine ⟨C, ?_, hC⟩
      rw [fX6_becomeFirst_l, if_pos (show (16 : Int32) ≤ nI 16 by decide)]
    · have hk : k < 16 := by omega
      have hs := first_st hk hC
      obtain ⟨C', e1, e2⟩ := ih (k + 1) _ (by omega) (by omega) hs
      refine ⟨C', ?_, e2⟩
      rw [← e1, fX6_becomeFirst_l, if_neg (show ¬ (16 : Int32) ≤ nI k from nI_ge (b := 16) hk (by decide))]
      by_cases q : k < 6
      · rw [if_neg (show ¬ (6 : Int32) ≤ nI k from nI_ge (b := 6) q (by decide)), if_pos q]
      · have h6 : (6 : Int32) ≤ nI k := by
          show nI 6 ≤ nI k
          rw [ti_le, ti_nI (by decide), ti_nI (by omega)]
          omega
        rw [if_pos h6, if_neg q]
        by_cases q2 : k = 15
        · rw [if_pos (show nI k = 15 by rw [q2]; rfl), if_pos q2]
        · rw [if_neg (show ¬ nI k = 15 from fun y => q2 ((nI_eq (b := 15) (by omega) (by decide)).mp y)), if_neg q2]
theorem cFirst (C : XO) : ∃ C', fX6_becomeFirst C 48 = C' ∧ (∀ f i j, ¬ (i = 48 ∧ (f = 2011 ∨ f = 2012 ∨ f = 2013 ∨ f = 2014 ∨ f = 604)) → xI C' f i j = xI C f i j) ∧ (∀ f i j, ¬ (f = 605 ∧ i = 48) → xL C' f i j = xL C f i j) ∧ (∀ j, j < 16 → xI C' 2011 48 j = (if j < 6 then 10000 else if j = 15 then 20000 else 0) ∧ xI C' 2012 48 j = 0 ∧ xI C' 2013 48 j = 0) ∧ (∀ j, j < 64 → xI C' 2014 48 j = 0) ∧ xI C' 604 48 0 = 0 ∧ xL C' 605 48 0 = 0 := by
  obtain ⟨C', e1, h1, h2, h3, h4⟩ := first_l (C0 := C) 17 0 C (by omega) (by omega) ⟨fun _ _ _ _ => rfl, fun _ _ _ => rfl, fun j hj => absurd hj (by omega), fun j hj => absurd hj (by omega)⟩
  refine ⟨_, (show fX6_becomeFirst C 48 = fX6_becomeFirst_l 48 17 0 C from rfl).trans e1, fun f i j hf => ?_, fun f i j hf => ?_, fun j hj => ?_, fun j hj => ?_, ?_, ?_⟩
  · rw [I_uL, I_uI, if_neg (fun y => hf ⟨y.2.1, by omega⟩), h1 f i j (fun y => hf ⟨y.1, by omega⟩)]
  · rw [L_uL, if_neg (fun y => hf ⟨y.1, y.2.1⟩), L_uI, h2]
  · rw [I_uL, I_ne (by decide), I_uL, I_ne (by decide), I_uL, I_ne (by decide)]
    exact h3 j hj
  · rw [I_uL, I_ne (by decide)]
    exact h4 j (by omega)
  · rw [I_uL, I_uI, if_pos ⟨rfl, rfl, rfl⟩]
  · rw [L_uL, if_pos ⟨rfl, rfl, rfl⟩]
