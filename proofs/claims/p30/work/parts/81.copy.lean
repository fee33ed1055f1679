/-- a place of a state -/
def stk (k c : Nat) : Prop := ((k = 2011 ∨ k = 2012 ∨ k = 2013) ∧ c < 16) ∨ (k = 2014 ∧ c < 64) ∨ (k = 604 ∧ c = 0)
theorem cpy_I {Ω : XO} {i i1 k a c n f : Nat} {m : Int32} (hm : m.toNatClampNeg = n) : xI (cI Ω f i1 f i (0 : Int32).toNatClampNeg (0 : Int32).toNatClampNeg m.toNatClampNeg) k a c = if k = f ∧ a = i ∧ c < n then xI Ω f i1 c else xI Ω k a c := by
  rw [I_cI, hm]
  by_cases z : k = f ∧ a = i
  · rw [if_pos z]
    unfold va_cpy
    have e0 : (0 : Int32).toNatClampNeg = 0 := rfl
    rw [e0]
    by_cases z2 : c < n
    · rw [if_pos ⟨by omega, by omega⟩, if_pos ⟨z.1, z.2, z2⟩]
      congr 1
      omega
    · rw [if_neg (fun y => z2 (by omega)), if_neg (fun y => z2 y.2.2), z.1, z.2]
  · rw [if_neg z, if_neg (fun y => z ⟨y.1, y.2.1⟩)]
theorem cCopy_I {Ω : XO} {i i1 : Nat} (k a c : Nat) : (a = i → stk k c → xI (fX6_copyFrom Ω i i1) k a c = xI Ω k i1 c) ∧ (¬ (a = i ∧ stk k c) → xI (fX6_copyFrom Ω i i1) k a c = xI Ω k a c) := by
  have e16 : (16 : Int32).toNatClampNeg = 16 := rfl
  have e64 : (64 : Int32).toNatClampNeg = 64 := rfl
  unfold fX6_copyFrom
  rw [I_uL]
  by_cases z : k = 604
  · subst z
    have w : ∀ a c, xI (cI (cI (cI (cI Ω 2011 i1 2011 i (0 : Int32).toNatClampNeg (0 : Int32).toNatClampNeg (16 : Int32).toNatClampNeg) 2012 i1 2012 i (0 : Int32).toNatClampNeg (0 : Int32).toNatClampNeg (16 : Int32).toNatClampNeg) 2013 i1 2013 i (0 : Int32).toNatClampNeg (0 : Int32).toNatClampNeg (16 : Int32).toNatClampNeg) 2014 i1 2014 i (0 : Int32).toNatClampNeg (0 : Int32).toNatClampNeg (64 : Int32).toNatClampNeg) 604 a c = xI Ω 604 a c := fun a c => by
      rw [cpy_I e64, if_neg (fun y => absurd y.1 (by decide)), cpy_I e16, if_neg (fun y => absurd y.1 (by decide)), cpy_I e16, if_neg (fun y => absurd y.1 (by decide)), cpy_I e16, if_neg (fun y => absurd y.1 (by decide))]
    rw [w, I_uI, w]
    refine ⟨fun h1 h2 => ?_, fun h1 => ?_⟩
    · rcases h2 with ⟨h2, -⟩ | ⟨h2, -⟩ | ⟨-, h2⟩
      · rcases h2 with h2 | h2 | h2 <;> exact absurd h2 (by decide)
      · exact absurd h2 (by decide)
      · rw [if_pos ⟨rfl, h1, h2⟩, h2]
    · rw [if_neg (fun y => h1 ⟨y.2.1, Or.inr (Or.inr ⟨rfl, y.2.2⟩)⟩)]
  · rw [I_ne z, cpy_I e64]
    by_cases z4 : k = 2014
    · subst z4
      have w : ∀ a c, xI (cI (cI (cI Ω 2011 i1 2011 i (0 : Int32).toNatClampNeg (0 : Int32).toNatClampNeg (16 : Int32).toNatClampNeg) 2012 i1 2012 i (0 : Int32).toNatClampNeg (0 : Int32).toNatClampNeg (16 : Int32).toNatClampNeg) 2013 i1 2013 i (0 : Int32).toNatClampNeg (0 : Int32).toNatClampNeg (16 : Int32).toNatClampNeg) 2014 a c = xI Ω 2014 a c := fun a c => by
        rw [cpy_I e16, if_neg (fun y => absurd y.1 (by decide)), cpy_I e16, if_neg (fun y => absurd y.1 (by decide)), cpy_I e16, if_neg (fun y => absurd y.1 (by decide))]
      simp only [w]
      refine ⟨fun h1 h2 => ?_, fun h1 => ?_⟩
      · rcases h2 with ⟨h2, -⟩ | ⟨-, h2⟩ | ⟨h2, -⟩
        · rcases h2 with h2 | h2 | h2 <;> exact absurd h2 (by decide)
        · rw [if_pos ⟨trivial, h1, h2⟩]
        · exact absurd h2 (by decide)
      · rw [if_neg (fun y => h1 ⟨y.2.1, Or.inr (Or.inl ⟨rfl, y.2.2⟩)⟩)]
    · rw [if_neg (fun y => z4 y.1), cpy_I e16]
      by_cases z3 : k = 2013
      · subst z3
        have w : ∀ a c, xI (cI (cI Ω 2011 i1 2011 i (0 : Int32).toNatClampNeg (0 : Int32).toNatClampNeg (16 : Int32).toNatClampNeg) 2012 i1 2012 i (0 : Int32).toNatClampNeg (0 : Int32).toNatClampNeg (16 : Int32).toNatClampNeg) 2013 a c = xI Ω 2013 a c := fun a c => by
          rw [cpy_I e16, if_neg (fun y => absurd y.1 (by decide)), cpy_I e16, if_neg (fun y => absurd y.1 (by decide))]
        simp only [w]
        refine ⟨fun h1 h2 => ?_, fun h1 => ?_⟩
        · rcases h2 with ⟨-, h2⟩ | ⟨h2, -⟩ | ⟨h2, -⟩
          · rw [if_pos ⟨trivial, h1, h2⟩]
          · exact absurd h2 (by decide)
          · exact absurd h2 (by decide)
        · rw [if_neg (fun y => h1 ⟨y.2.1, Or.inl ⟨Or.inr (Or.inr rfl), y.2.2⟩⟩)]
      · rw [if_neg (fun y => z3 y.1), cpy_I e16]
        by_cases z2 : k = 2012
        · subst z2
          have w : ∀ a c, xI (cI Ω 2011 i1 2011 i (0 : Int32).toNatClampNeg (0 : Int32).toNatClampNeg (16 : Int32).toNatClampNeg) 2012 a c = xI Ω 2012 a c := fun a c => by
            rw [cpy_I e16, if_neg (fun y => absurd y.1 (by decide))]
          simp only [w]
          refine ⟨fun h1 h2 => ?_, fun h1 => ?_⟩
          · rcases h2 with ⟨-, h2⟩ | ⟨h2, -⟩ | ⟨h2, -⟩
            · rw [if_pos ⟨trivial, h1, h2⟩]
            · exact absurd h2 (by decide)
            · exact absurd h2 (by decide)
          · rw [if_neg (fun y => h1 ⟨y.2.1, Or.inl ⟨Or.inr (Or.inl rfl), y.2.2⟩⟩)]
        · rw [if_neg (fun y => z2 y.1), cpy_I e16]
          by_cases z1 : k = 2011
          · subst z1
            refine ⟨fun h1 h2 => ?_, fun h1 => ?_⟩
            · rcases h2 with ⟨-, h2⟩ | ⟨h2, -⟩ | ⟨h2, -⟩
              · rw [if_pos ⟨rfl, h1, h2⟩]
              · exact absurd h2 (by decide)
              · exact absurd h2 (by decide)
            · rw [if_neg (fun y => h1 ⟨y.2.1, Or.inl ⟨Or.inl rfl, y.2.2⟩⟩)]
          · rw [if_neg (fun y => z1 y.1)]
            refine ⟨fun _ h2 => ?_, fun _ => rfl⟩
            rcases h2 with ⟨h2, -⟩ | ⟨h2, -⟩ | ⟨h2, -⟩
            · rcases h2 with h2 | h2 | h2
              · exact absurd h2 z1
              · exact absurd h2 z2
              · exact absurd h2 z3
            · exact absurd h2 z4
            · exact absurd h2 z
theorem cCopy_L {Ω : XO} {i i1 : Nat} (k a c : Nat) : xL (fX6_copyFrom Ω i i1) k a c = if k = 605 ∧ a = i ∧ c = 0 then xL Ω 605 i1 0 else xL Ω k a c := by
  unfold fX6_copyFrom
  rw [L_uL]
  rfl
theorem cCopy_R {Ω : XO} {i i1 : Nat} (k a : Nat) : xR (fX6_copyFrom Ω i i1) k a = xR Ω k a := rfl
/-- places t.. of a row copied -/
def mCpy (M : XO) (kd bd ks bs t e : Nat) (M' : XO) : Prop := (∀ k i j, (¬ (k = kd ∧ i = 0 ∧ bd + t ≤ j ∧ j < bd + e) → xI M' k i j = xI M k i j)) ∧ (∀ x, t ≤ x → x < e → xI M' kd 0 (bd + x) = xI M ks 0 (bs + x)) ∧ (∀ k i j, xL M' k i j = xL M k i j) ∧ ∀ k i, xR M' k i = xR M k i
theorem mCpy.nil {M : XO} {kd bd ks bs e : Nat} : mCpy M kd bd ks bs e e M := ⟨fun _ _ _ _ => rfl, fun x h1 h2 => absurd h2 (by omega), fun _ _ _ => rfl, fun _ _ => rfl⟩
theorem mCpy.cons {M M' : XO} {kd bd ks bs t e : Nat} (hk : ks ≠ kd) (ht : t < e) (h : mCpy (uI M kd 0 (bd + t) (xI M ks 0 (bs + t))) kd bd ks bs (t + 1) e M') : mCpy M kd bd ks bs t e M' := by
  obtain ⟨h1, h2, h3, h4⟩ := h
  refine ⟨fun k i j hj => ?_, fun x x1 x2 => ?_, fun k i j => by rw [h3, L_uI], fun k i => by rw [h4]; rfl⟩
  · rw [h1 k i j (fun y => hj ⟨y.1, y.2.1, by omega, y.2.2.2⟩), I_uI, if_neg (fun y => hj ⟨y.1, y.2.1, by omega, by omega⟩)]
  · by_cases z : x = t
    · subst z
      rw [h1 _ _ _ (fun y => by have := y.2.2.1; omega), I_uI, if_pos ⟨rfl, rfl, rfl⟩]
    · rw [h2 x (by omega) x2, I_ne hk]
theorem eSnap_l {d : Nat} (hd : d < 5) : ∀ n t M, t ≤ 120 → 120 - t < n → ∃ M', fX11_snap_l2 (nI d) n (nI t) M = some (nI 120, M') ∧ mCpy M 2102 (120 * d) 2101 0 t 120 M' := by
  intro n
  induction n with
  | zero => intro t M _ h; exact absurd h (by omega)
  | succ n ih =>
    intro t M h1 h2
    unfold fX11_snap_l2 wl
    dsimp only
    by_cases z : t = 120
    · subst z
      rw [if_pos (show (120 : Int32) ≤ nI 120 by decide)]
      exact ⟨M, rfl, mCpy.nil⟩
    · rw [if_neg (show ¬ (120 : Int32) ≤ nI t from nI_ge (b := 120) (by omega) (by decide)), if_pos (inB_nI (show t < 120 by omega) (by decide)), show (120 : Int32) = nI 120 from rfl, nI_mul, nI_add, if_pos (inB_nI (show 120 * d + t < 600 by omega) (by decide)), cl_nI (show 120 * d + t < 2147483648 by omega), cl_nI (show t < 2147483648 by omega), nI_1]
      obtain ⟨M', a1, a2⟩ := ih (t + 1) (uI M 2102 0 (120 * d + t) (xI M 2101 0 t)) (by omega) (by omega)
      refine ⟨M', a1, mCpy.cons (by decide) (by omega) ?_⟩
      rw [Nat.zero_add]
      exact a2
theorem eSnap {d : Nat} (hd : d < 5) (M : XO) : ∃ M', fX11_snap M (nI d) = some M' ∧ mCpy M 2102 (120 * d) 2101 0 0 120 M' := by
  obtain ⟨M', a1, a2⟩ := eSnap_l hd 121 0 M (by omega) (by omega)
  refine ⟨M', ?_, a2⟩
  unfold fX11_snap
  rw [show (0 : Int32) = nI 0 from rfl, a1, Option.bind_some]
theorem eUndo_l {d : Nat} (hd : d < 5) : ∀ n t M, t ≤ 120 → 120 - t < n → ∃ M', fX11_undo_l2 (nI d) n (nI t) M = some (nI 120, M') ∧ mCpy M 2101 0 2102 (120 * d) t 120 M' := by
  intro n
  induction n with
  | zero => intro t M _ h; exact absurd h (by omega)
  | succ n ih =>
    intro t M h1 h2
    unfold fX11_undo_l2 wl
    dsimp only
    by_cases z : t = 120
    · subst z
      rw [if_pos (show (120 : Int32) ≤ nI 120 by decide)]
      exact ⟨M, rfl, mCpy.nil⟩
    · rw [if_neg (show ¬ (120 : Int32) ≤ nI t from nI_ge (b := 120) (by omega) (by decide)), if_pos (inB_nI (show t < 120 by omega) (by decide)), show (120 : Int32) = nI 120 from rfl, nI_mul, nI_add, if_pos (inB_nI (show 120 * d + t < 600 by omega) (by decide)), cl_nI (show 120 * d + t < 2147483648 by omega), cl_nI (show t < 2147483648 by omega), nI_1]
      obtain ⟨M', a1, a2⟩ := ih (t + 1) (uI M 2101 0 t (xI M 2102 0 (120 * d + t))) (by omega) (by omega)
      refine ⟨M', a1, mCpy.cons (by decide) (by omega) ?_⟩
      rw [Nat.zero_add]
      exact a2
theorem eUndo {d : Nat} (hd : d < 5) (M : XO) : ∃ M', fX11_undo M (nI d) = some M' ∧ mCpy M 2101 0 2102 (120 * d) 0 120 M' := by
  obtain ⟨M', a1, a2⟩ := eUndo_l hd 121 0 M (by omega) (by omega)
  refine ⟨M', ?_, a2⟩
  unfold fX11_undo
  rw [show (0 : Int32) = nI 0 from rfl, a1, Option.bind_some]
theorem eCopyIn_l {g : Nat} (hg : g < 48) : ∀ n t M, t ≤ 120 → 120 - t < n → ∃ M', fX11_copyIn_l2 (nI (120 * g)) n (nI t) M = some (nI 120, M') ∧ mCpy M 2101 0 2100 (120 * g) t 120 M' := by
  intro n
  induction n with
  | zero => intro t M _ h; exact absurd h (by omega)
  | succ n ih =>
    intro t M h1 h2
    unfold fX11_copyIn_l2 wl
    dsimp only
    by_cases z : t = 120
    · subst z
      rw [if_pos (show (120 : Int32) ≤ nI 120 by decide)]
      exact ⟨M, rfl, mCpy.nil⟩
    · rw [if_neg (show ¬ (120 : Int32) ≤ nI t from nI_ge (b := 120) (by omega) (by decide)), if_pos (inB_nI (show t < 120 by omega) (by decide)), nI_add, if_pos (inB_nI (show 120 * g + t < 5760 by omega) (by decide)), cl_nI (show 120 * g + t < 2147483648 by omega), cl_nI (show t < 2147483648 by omega), nI_1]
      obtain ⟨M', a1, a2⟩ := ih (t + 1) (uI M 2101 0 t (xI M 2100 0 (120 * g + t))) (by omega) (by omega)
      refine ⟨M', a1, mCpy.cons (by decide) (by omega) ?_⟩
      rw [Nat.zero_add]
      exact a2
theorem eCopyIn {g : Nat} (hg : g < 48) (M : XO) : ∃ M', fX11_copyIn M (nI (120 * g)) = some M' ∧ mCpy M 2101 0 2100 (120 * g) 0 120 M' := by
  obtain ⟨M', a1, a2⟩ := eCopyIn_l hg 121 0 M (by omega) (by omega)
  refine ⟨M', ?_, a2⟩
  unfold fX11_copyIn
  rw [show (0 : Int32) = nI 0 from rfl, a1, Option.bind_some]
theorem eStore_l {g : Nat} (hg : g < 48) (c b : Int32) : ∀ n t M, xI M 1158 0 0 = nI g → t ≤ 120 → 120 - t < n → ∃ M', fX11_make_l306 c b n (nI t) M = some (nI 120, M') ∧ mCpy M 2100 (120 * g) 2101 0 t 120 M' := by
  intro n
  induction n with
  | zero => intro t M _ _ h; exact absurd h (by omega)
  | succ n ih =>
    intro t M h0 h1 h2
    unfold fX11_make_l306 wl
    dsimp only
    by_cases z : t = 120
    · subst z
      rw [if_pos (show (120 : Int32) ≤ nI 120 by decide)]
      exact ⟨M, rfl, mCpy.nil⟩
    · rw [if_neg (show ¬ (120 : Int32) ≤ nI t from nI_ge (b := 120) (by omega) (by decide)), if_pos (inB_nI (show t < 120 by omega) (by decide)), h0, show (120 : Int32) = nI 120 from rfl, nI_mul, nI_add, if_pos (inB_nI (show 120 * g + t < 5760 by omega) (by decide)), cl_nI (show 120 * g + t < 2147483648 by omega), cl_nI (show t < 2147483648 by omega), nI_1]
      obtain ⟨M', a1, a2⟩ := ih (t + 1) (uI M 2100 0 (120 * g + t) (xI M 2101 0 t)) (by rw [I_ne (by decide), h0]) (by omega) (by omega)
      refine ⟨M', a1, mCpy.cons (by decide) (by omega) ?_⟩
      rw [Nat.zero_add]
      exact a2
/-- places t.. of a row made 0 -/
def mZer (M : XO) (kd bd t e : Nat) (M' : XO) : Prop := (∀ k i j, (¬ (k = kd ∧ i = 0 ∧ bd + t ≤ j ∧ j < bd + e) → xI M' k i j = xI M k i j)) ∧ (∀ x, t ≤ x → x < e → xI M' kd 0 (bd + x) = 0) ∧ (∀ k i j, xL M' k i j = xL M k i j) ∧ ∀ k i, xR M' k i = xR M k i
theorem eZero_l {d : Nat} (hd : d < 5) : ∀ n t M, t ≤ 16 → 16 - t < n → ∃ M', fX11_begin_l93 (nI d) n (nI t) M = some (nI 16, M') ∧ mZer M 2149 (16 * d) t 16 M' := by
  intro n
  induction n with
  | zero => intro t M _ h; exact absurd h (by omega)
  | succ n ih =>
    intro t M h1 h2
    unfold fX11_begin_l93 wl
    dsimp only
    by_cases z : t = 16
    · subst z
      rw [if_pos (show (16 : Int32) ≤ nI 16 by decide)]
      exact ⟨M, rfl, fun _ _ _ _ => rfl, fun x h1 h2 => absurd h2 (by omega), fun _ _ _ => rfl, fun _ _ => rfl⟩
    · rw [if_neg (show ¬ (16 : Int32) ≤ nI t from nI_ge (b := 16) (by omega) (by decide)), show (16 : Int32) = nI 16 from rfl, nI_mul, nI_add, if_pos (inB_nI (show 16 * d + t < 80 by omega) (by decide)), cl_nI (show 16 * d + t < 2147483648 by omega), nI_1]
      obtain ⟨M', a1, a2, a3, a4, a5⟩ := ih (t + 1) (uI M 2149 0 (16 * d + t) 0) (by omega) (by omega)
      refine ⟨M', a1, fun k i j hj => ?_, fun x x1 x2 => ?_, fun k i j => by rw [a4, L_uI], fun k i => by rw [a5]; rfl⟩
      · rw [a2 k i j (fun y => hj ⟨y.1, y.2.1, by omega, y.2.2.2⟩), I_uI, if_neg (fun y => hj ⟨y.1, y.2.1, by omega, by omega⟩)]
      · by_cases w : x = t
        · subst w
          rw [a2 _ _ _ (fun y => by have := y.2.2.1; omega), I_uI, if_pos ⟨rfl, rfl, rfl⟩]
        · exact a3 x (by omega) x2
theorem cZero_l {f : Nat} (x1 x2 x3 x4 x5 : Int32) : ∀ n t W, t ≤ 16 → 16 - t < n → ∃ W', fX3_open_l f x1 x2 x3 x4 x5 n t W = W' ∧ (∀ k i j, ¬ (k = 2006 ∧ i = f ∧ t ≤ j ∧ j < 16) → xI W' k i j = xI W k i j) ∧ (∀ x, t ≤ x → x < 16 → xI W' 2006 f x = 0) ∧ (∀ k i j, xL W' k i j = xL W k i j) ∧ ∀ k i, xR W' k i = xR W k i := by
  intro n
  induction n with
  | zero => intro t M _ h; exact absurd h (by omega)
  | succ n ih =>
    intro t W h1 h2
    unfold fX3_open_l
    by_cases z : t = 16
    · subst z
      rw [if_pos (show (16 : Int32) ≤ nI 16 by decide)]
      exact ⟨W, rfl, fun _ _ _ _ => rfl, fun x h1 h2 => absurd h2 (by omega), fun _ _ _ => rfl, fun _ _ => rfl⟩
    · have e1 : sPut W 2006 f (nI t) (0 : Int32) = uI W 2006 f t 0 := by
        unfold sPut
        rw [if_neg (nI_nlt0 (by omega)), if_neg (show ¬ nI (alen 2006) ≤ nI t from nI_ge (b := 16) (by omega) (by decide)), cl_nI (by omega)]
      rw [if_neg (show ¬ (16 : Int32) ≤ nI t from nI_ge (b := 16) (by omega) (by decide)), e1]
      obtain ⟨M', a1, a2, a3, a4, a5⟩ := ih (t + 1) (uI W 2006 f t 0) (by omega) (by omega)
      refine ⟨M', a1, fun k i j hj => ?_, fun x x1 x2 => ?_, fun k i j => by rw [a4, L_uI], fun k i => by rw [a5]; rfl⟩
      · rw [a2 k i j (fun y => hj ⟨y.1, y.2.1, by omega, y.2.2.2⟩), I_uI, if_neg (fun y => hj ⟨y.1, y.2.1, by omega, by omega⟩)]
      · by_cases w : x = t
        · subst w
          rw [a2 _ _ _ (fun y => by have := y.2.2.1; omega), I_uI, if_pos ⟨rfl, rfl, rfl⟩]
        · exact a3 x (by omega) x2
