theorem in479 {c : Nat} (hc : c < 2) : ∀ (n y : Nat) (W : XO), y + n = 7 → y ≤ 6 → ∃ W', fX11_init_l479 (nI c) n (nI y) W = some (nI 6, W') ∧ (∀ k i j, ¬ (k = 2100 ∧ 2880 * c + y ≤ j ∧ j < 2880 * c + 6) → xI W' k i j = xI W k i j) ∧ (∀ k i j, xL W' k i j = xL W k i j) ∧ ∀ j, y ≤ j → j < 6 → xI W' 2100 0 (2880 * c + j) = 10000 := by
  intro n
  induction n with
  | zero => intro y W h1 h2; exact absurd h1 (by omega)
  | succ n ih =>
    intro y W h1 h2
    by_cases z : y = 6
    · subst z
      refine ⟨W, ?_, fun _ _ _ _ => rfl, fun _ _ _ => rfl, fun j a b => absurd a (by omega)⟩
      rw [fX11_init_l479, if_pos (show (6 : Int32) ≤ nI 6 by decide)]
    · have e : (2880 : Int32) * nI c + nI y = nI (2880 * c + y) := by rw [show (2880 : Int32) = nI 2880 from rfl, nI_mul, nI_add]
      obtain ⟨W', w1, w2, w3, w4⟩ := ih (y + 1) (uI W 2100 0 (2880 * c + y) 10000) (by omega) (by omega)
      refine ⟨W', ?_, fun k i j h => ?_, fun k i j => by rw [w3, L_uI], fun j a b => ?_⟩
      · rw [fX11_init_l479, if_neg (show ¬ (6 : Int32) ≤ nI y from nI_ge (b := 6) (by omega) (by decide)), e, if_pos (inB_nI (show 2880 * c + y < 5760 by omega) (by decide)), cl_nI (show 2880 * c + y < 2147483648 by omega), nI_1]
        exact w1
      · rw [w2 k i j (fun q => h ⟨q.1, by omega, q.2.2⟩), I_uI, if_neg (fun q => h ⟨q.1, by omega, by omega⟩)]
      · by_cases q : j = y
        · rw [w2 _ _ _ (fun q => by omega), I_uI, if_pos ⟨rfl, rfl, by omega⟩]
        · exact w4 j (by omega) b
theorem in524 {c : Nat} (hc : c < 2) : ∀ (n y : Nat) (W : XO), y + n = 5 → y ≤ 4 → ∃ W', fX11_init_l524 (nI c) n (nI y) W = some (nI 4, W') ∧ (∀ k i j, ¬ (k = 2139 ∧ 4 * c + y ≤ j ∧ j < 4 * c + 4) → xI W' k i j = xI W k i j) ∧ (∀ k i j, xL W' k i j = xL W k i j) ∧ ∀ j, y ≤ j → j < 4 → xI W' 2139 0 (4 * c + j) = 100 := by
  intro n
  induction n with
  | zero => intro y W h1 h2; exact absurd h1 (by omega)
  | succ n ih =>
    intro y W h1 h2
    by_cases z : y = 4
    · subst z
      refine ⟨W, ?_, fun _ _ _ _ => rfl, fun _ _ _ => rfl, fun j a b => absurd a (by omega)⟩
      rw [fX11_init_l524, if_pos (show (4 : Int32) ≤ nI 4 by decide)]
    · have e : (4 : Int32) * nI c + nI y = nI (4 * c + y) := by rw [show (4 : Int32) = nI 4 from rfl, nI_mul, nI_add]
      obtain ⟨W', w1, w2, w3, w4⟩ := ih (y + 1) (uI W 2139 0 (4 * c + y) 100) (by omega) (by omega)
      refine ⟨W', ?_, fun k i j h => ?_, fun k i j => by rw [w3, L_uI], fun j a b => ?_⟩
      · rw [fX11_init_l524, if_neg (show ¬ (4 : Int32) ≤ nI y from nI_ge (b := 4) (by omega) (by decide)), e, if_pos (inB_nI (show 4 * c + y < 8 by omega) (by decide)), cl_nI (show 4 * c + y < 2147483648 by omega), nI_1]
        exact w1
      · rw [w2 k i j (fun q => h ⟨q.1, by omega, q.2.2⟩), I_uI, if_neg (fun q => h ⟨q.1, by omega, by omega⟩)]
      · by_cases q : j = y
        · rw [w2 _ _ _ (fun q => by omega), I_uI, if_pos ⟨rfl, rfl, by omega⟩]
        · exact w4 j (by omega) b
/-- what a chain's start changes in the reference's world -/
def omK (c k j : Nat) : Prop := ((k = 2107 ∨ k = 2109) ∧ j = c) ∨ ((k = 2120 ∨ k = 2124 ∨ k = 2133 ∨ k = 2127) ∧ j = 24 * c) ∨ (k = 2100 ∧ 2880 * c ≤ j ∧ j < 2880 * c + 16) ∨ (k = 2139 ∧ 4 * c ≤ j ∧ j < 4 * c + 4) ∨ k = 2159
theorem inChain {c n : Nat} (hc : c < 2) {C W : XO} (w0 : ∀ j, j < 5760 → j / 2880 = c → xI W 2100 0 j = 0) (s1 : ∀ j, j < 16 → xI C 2011 (24 * c) j = (if j < 6 then 10000 else if j = 15 then 20000 else 0) ∧ xI C 2012 (24 * c) j = 0 ∧ xI C 2013 (24 * c) j = 0) (s2 : ∀ j, j < 64 → xI C 2014 (24 * c) j = 0) (s3 : xI C 604 (24 * c) 0 = 0) : ∃ W', fX11_init_l425 (n + 1) (nI c) W = fX11_init_l425 n (nI (c + 1)) W' ∧ (∀ k i j, ¬ omK c k j → xI W' k i j = xI W k i j) ∧ (∀ k i j, xL W' k i j = xL W k i j) ∧ xI W' 2107 0 c = 1000 ∧ xI W' 2109 0 c = 1 ∧ xI W' 2120 0 (24 * c) = -1 ∧ xI W' 2124 0 (24 * c) = 10 ∧ xI W' 2133 0 (24 * c) = 1 ∧ xI W' 2127 0 (24 * c) = fX10_nodeOver C (24 * c) 4 0 ∧ (∀ j, j < 2880 → xI W' 2100 0 (2880 * c + j) = (if j < 6 then 10000 else if j = 15 then 20000 else 0)) ∧ ∀ j, j < 4 → xI W' 2139 0 (4 * c + j) = 100 := by
  have hcI : inB (nI c) 2 := inB_nI hc (by decide)
  have hcl : (nI c).toNatClampNeg = c := cl_nI (by omega)
  have e24 : (24 : Int32) * nI c = nI (24 * c) := by rw [show (24 : Int32) = nI 24 from rfl, nI_mul]
  have i24 : inB (nI (24 * c)) 48 := inB_nI (by omega) (by decide)
  have k24 : (nI (24 * c)).toNatClampNeg = 24 * c := cl_nI (by omega)
  have e28 : (2880 : Int32) * nI c = nI (120 * (24 * c)) := by rw [show (2880 : Int32) = nI 2880 from rfl, nI_mul]; congr 1; omega
  have e15 : nI (120 * (24 * c)) + (15 : Int32) = nI (2880 * c + 15) := by rw [show (15 : Int32) = nI 15 from rfl, nI_add]; congr 1; omega
  have i15 : inB (nI (2880 * c + 15)) 5760 := inB_nI (by omega) (by decide)
  have k15 : (nI (2880 * c + 15)).toNatClampNeg = 2880 * c + 15 := cl_nI (by omega)
  obtain ⟨A, hA⟩ : ∃ A, A = uI (uI (uI (uI (uI W 2107 0 c 1000) 2109 0 c 1) 2120 0 (24 * c) (-1)) 2124 0 (24 * c) 10) 2133 0 (24 * c) 1 := ⟨_, rfl⟩
  obtain ⟨B, b1, b2, b3, b4⟩ := in479 hc 7 0 A (by omega) (by omega)
  obtain ⟨E, d1, d2, d3, d4⟩ := in524 hc 5 0 (uI B 2100 0 (2880 * c + 15) 20000) (by omega) (by omega)
  have hE : ∀ j, j < 2880 → xI E 2100 0 (2880 * c + j) = (if j < 6 then 10000 else if j = 15 then 20000 else 0) := fun j hj => by
    rw [d2 _ _ _ (by omega), I_uI]
    by_cases z15 : j = 15
    · rw [if_pos ⟨rfl, rfl, by omega⟩, if_neg (by omega), if_pos z15]
    · rw [if_neg (fun y => z15 (by omega))]
      by_cases z6 : j < 6
      · rw [b4 j (by omega) z6, if_pos z6]
      · rw [b2 _ _ _ (by omega), if_neg z6, if_neg z15, hA, I_ne (by decide), I_ne (by decide), I_ne (by decide), I_ne (by decide), I_ne (by decide)]
        exact w0 _ (by omega) (by omega)
  have hq : qS1 C E (24 * c) := by
    have e : ∀ x, 120 * (24 * c) + x = 2880 * c + x := fun x => by omega
    refine ⟨fun j hj => ?_, fun j hj => ?_, fun j hj => ?_, fun j hj => ?_, ?_⟩
    · rw [e, hE j (by omega), (s1 j hj).1]
    · rw [Nat.add_assoc, e, hE _ (by omega), (s1 j hj).2.1, if_neg (by omega), if_neg (by omega)]
    · rw [Nat.add_assoc, e, hE _ (by omega), (s1 j hj).2.2, if_neg (by omega), if_neg (by omega)]
    · rw [Nat.add_assoc, e, hE _ (by omega), s2 j hj, if_neg (by omega), if_neg (by omega)]
    · rw [e, hE _ (by omega), s3, if_neg (by omega), if_neg (by omega)]
  have hroot := eRoot2 hq (by omega)
  obtain ⟨F, hF⟩ : ∃ F, F = setL E (rnd (fun j => if j < 16 then fX6_leafOf C (24 * c) (nI j) else xI E 2159 0 j) 4) := ⟨_, rfl⟩
  rw [← hF] at hroot
  have fI : ∀ k i j, k ≠ 2159 → xI F k i j = xI E k i j := fun k i j hk => by rw [hF, setL_I _ _ hk]
  have fL : ∀ k i j, xL F k i j = xL E k i j := fun k i j => by rw [hF]; rfl
  have g0 : ∀ k i j, k ≠ 2159 → k ≠ 2100 → k ≠ 2139 → xI F k i j = xI A k i j := fun k i j h1 h2 h3 => by
    rw [fI k i j h1, d2 _ _ _ (fun y => h3 y.1), I_ne h2, b2 _ _ _ (fun y => h2 y.1)]
  refine ⟨uI F 2127 0 (24 * c) (fX10_nodeOver C (24 * c) 4 0), ?_, fun k i j hk => ?_, fun k i j => ?_, ?_, ?_, ?_, ?_, ?_, ?_, fun j hj => ?_, fun j hj => ?_⟩
  · rw [fX11_init_l425, if_neg (show ¬ (2 : Int32) ≤ nI c from nI_ge (b := 2) hc (by decide))]
    unfold wl
    simp only [if_pos hcI, hcl, e24, if_pos i24, k24]
    rw [← hA, show (0 : Int32) = nI 0 from rfl, b1, Option.bind_some, e28, e15, if_pos i15, k15]
    dsimp only
    rw [d1, Option.bind_some, hroot, Option.bind_some, nI_1]
    rfl
  · unfold omK at hk
    rw [I_uI, if_neg (fun y => hk (by omega)), fI _ _ _ (fun y => hk (by omega)), d2 _ _ _ (fun y => hk (by omega)), I_uI, if_neg (fun y => hk (by omega)), b2 _ _ _ (fun y => hk (by omega)), hA, I_uI, if_neg (fun y => hk (by omega)), I_uI, if_neg (fun y => hk (by omega)), I_uI, if_neg (fun y => hk (by omega)), I_uI, if_neg (fun y => hk (by omega)), I_uI, if_neg (fun y => hk (by omega))]
  · rw [L_uI, fL, d3, L_uI, b3, hA, L_uI, L_uI, L_uI, L_uI, L_uI]
  · rw [I_ne (by decide), g0 _ _ _ (by decide) (by decide) (by decide), hA, I_ne (by decide), I_ne (by decide), I_ne (by decide), I_ne (by decide), I_uI, if_pos ⟨rfl, rfl, rfl⟩]
  · rw [I_ne (by decide), g0 _ _ _ (by decide) (by decide) (by decide), hA, I_ne (by decide), I_ne (by decide), I_ne (by decide), I_uI, if_pos ⟨rfl, rfl, rfl⟩]
  · rw [I_ne (by decide), g0 _ _ _ (by decide) (by decide) (by decide), hA, I_ne (by decide), I_ne (by decide), I_uI, if_pos ⟨rfl, rfl, rfl⟩]
  · rw [I_ne (by decide), g0 _ _ _ (by decide) (by decide) (by decide), hA, I_ne (by decide), I_uI, if_pos ⟨rfl, rfl, rfl⟩]
  · rw [I_ne (by decide), g0 _ _ _ (by decide) (by decide) (by decide), hA, I_uI, if_pos ⟨rfl, rfl, rfl⟩]
  · rw [I_uI, if_pos ⟨rfl, rfl, rfl⟩]
  · rw [I_ne (by decide), fI _ _ _ (by decide)]
    exact hE j hj
  · rw [I_ne (by decide), fI _ _ _ (by decide)]
    exact d4 j (by omega) hj
/-- the reference's world at first -/
theorem oM_is : ∃ Mx, oM = Mx ∧ (∀ k i j, ¬ omK 0 k j → ¬ omK 1 k j → xI Mx k i j = xI oA k i j) ∧ (∀ k i j, xL Mx k i j = 0) ∧ ∀ c, c < 2 → xI Mx 2107 0 c = 1000 ∧ xI Mx 2109 0 c = 1 ∧ xI Mx 2120 0 (24 * c) = -1 ∧ xI Mx 2124 0 (24 * c) = 10 ∧ xI Mx 2133 0 (24 * c) = 1 ∧ xI Mx 2127 0 (24 * c) = fX10_nodeOver oI (24 * c) 4 0 ∧ (∀ j, j < 2880 → xI Mx 2100 0 (2880 * c + j) = (if j < 6 then 10000 else if j = 15 then 20000 else 0)) ∧ ∀ j, j < 4 → xI Mx 2139 0 (4 * c + j) = 100 := by
  have sC : ∀ c, c < 2 → (∀ j, j < 16 → xI oI 2011 (24 * c) j = (if j < 6 then 10000 else if j = 15 then 20000 else 0) ∧ xI oI 2012 (24 * c) j = 0 ∧ xI oI 2013 (24 * c) j = 0) ∧ (∀ j, j < 64 → xI oI 2014 (24 * c) j = 0) ∧ xI oI 604 (24 * c) 0 = 0 := fun c hc => by
    obtain ⟨-, -, b3, b4, b5, -⟩ := cBF (24 * c)
    refine ⟨fun j hj => ?_, fun j hj => ?_, ?_⟩
    · rw [(oI_at hc (f := 2011) (by decide)).1, (oI_at hc (f := 2012) (by decide)).1, (oI_at hc (f := 2013) (by decide)).1]
      exact b3 j hj
    · rw [(oI_at hc (f := 2014) (by decide)).1]
      exact b4 j hj
    · rw [(oI_at hc (f := 604) (by decide)).1]
      exact b5
  obtain ⟨s1, s2, s3⟩ := sC 0 (by decide)
  obtain ⟨t1, t2, t3⟩ := sC 1 (by decide)
  obtain ⟨W, w1, w2, w3, w4, w5, w6, w7, w8, w9, w10, w11⟩ := inChain (n := 2) (c := 0) (W := oA) (by decide) (fun _ _ _ => rfl) s1 s2 s3
  obtain ⟨V, v1, v2, v3, v4, v5, v6, v7, v8, v9, v10, v11⟩ := inChain (n := 1) (c := 1) (W := W) (by decide) (fun j h1 h2 => by rw [w2 _ _ _ (by unfold omK; omega)]; rfl) t1 t2 t3
  have hoM : oM = V := by
    have h := init_is
    unfold fX11_init at h
    have w1' : fX11_init_l425 3 (0 : Int32) oA = fX11_init_l425 2 (nI (0 + 1)) W := w1
    have v1' : fX11_init_l425 2 (nI (0 + 1)) W = fX11_init_l425 1 (nI (1 + 1)) V := v1
    rw [w1', v1', fX11_init_l425, if_pos (by decide), Option.bind_some] at h
    exact (Option.some.inj h).symm
  refine ⟨V, hoM, fun k i j h0 h1 => by rw [v2 k i j h1, w2 k i j h0], fun k i j => by rw [v3, w3]; rfl, fun c hc => ?_⟩
  rcases (show c = 0 ∨ c = 1 by omega) with rfl | rfl
  · have n1 : ∀ k j, k ≠ 2159 → ¬ omK 1 k j → xI V k 0 j = xI W k 0 j := fun k j _ h => v2 k 0 j h
    refine ⟨?_, ?_, ?_, ?_, ?_, ?_, fun j hj => ?_, fun j hj => ?_⟩
    · rw [v2 _ _ _ (by unfold omK; omega), w4]
    · rw [v2 _ _ _ (by unfold omK; omega), w5]
    · rw [v2 _ _ _ (by unfold omK; omega), w6]
    · rw [v2 _ _ _ (by unfold omK; omega), w7]
    · rw [v2 _ _ _ (by unfold omK; omega), w8]
    · rw [v2 _ _ _ (by unfold omK; omega), w9]
    · rw [v2 _ _ _ (by unfold omK; omega), w10 j hj]
    · rw [v2 _ _ _ (by unfold omK; omega), w11 j hj]
  · exact ⟨v4, v5, v6, v7, v8, v9, v10, v11⟩
