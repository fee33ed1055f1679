/-- the fixed things of a run: class's block (and state), reference's block, chain, sum of coins, bound of nonces, bound of events, worlds at first -/
abbrev XP : Type := Nat × Nat × Nat × Nat × Nat × Nat × XO × XO
def pb (P : XP) : Nat := P.1
def pk (P : XP) : Nat := P.2.1
def pc (P : XP) : Nat := P.2.2.1
def pT (P : XP) : Nat := P.2.2.2.1
def pN (P : XP) : Nat := P.2.2.2.2.1
def pL (P : XP) : Nat := P.2.2.2.2.2.1
def pC (P : XP) : XO := P.2.2.2.2.2.2.1
def pM (P : XP) : XO := P.2.2.2.2.2.2.2
def sZP (P : XP) : Prop := pb P ≤ 48 ∧ pk P < 48 ∧ pc P < 2 ∧ pT P ≤ 80000 ∧ pN P ≤ 1000000 ∧ pL P ≤ 800
/-- linked cells but the gas -/
def LN (b d blk : Nat) (C M : XO) : Prop := ∀ (k i j : Nat) (c : Nat × Nat), k ≠ 310 → ph b b d blk k i j = some c → xI C k i j = xI M c.1 0 c.2
theorem LN.up {b d blk : Nat} {C M : XO} (h : LN b d blk C M) (hs : b ≤ 48) {k i j k' j' : Nat} (e : ph b b d blk k i j = some (k', j')) (v : Int32) : LN b d blk (uI C k i j v) (uI M k' 0 j' v) := by
  intro k2 i2 j2 c2 h3 h2
  rw [I_uI, I_uI]
  by_cases q : k2 = k ∧ i2 = i ∧ j2 = j
  · obtain ⟨rfl, rfl, rfl⟩ := q
    rw [e] at h2
    cases h2
    rw [if_pos ⟨rfl, rfl, rfl⟩, if_pos ⟨rfl, rfl, rfl⟩]
  · rw [if_neg q, if_neg]
    · exact h _ _ _ _ h3 h2
    · rintro ⟨q1, -, q2⟩
      have e1 := qh_ph hs e
      have e2 := qh_ph hs h2
      rw [q1, q2, e1] at e2
      cases e2
      exact q ⟨rfl, rfl, rfl⟩
theorem LN.upc {b d blk : Nat} {C M : XO} (h : LN b d blk C M) {k i j : Nat} (e : k = 310 ∨ ph b b d blk k i j = none) (v : Int32) : LN b d blk (uI C k i j v) M := by
  intro k2 i2 j2 c2 h3 h2
  rw [I_uI]
  by_cases q : k2 = k ∧ i2 = i ∧ j2 = j
  · obtain ⟨rfl, rfl, rfl⟩ := q
    rcases e with e | e
    · exact absurd e h3
    · rw [e] at h2
      cases h2
  · rw [if_neg q]
    exact h _ _ _ _ h3 h2
theorem LN.upm {b d blk : Nat} {C M : XO} (h : LN b d blk C M) (hs : b ≤ 48) {k' j' : Nat} (e : (qh b b k' j').1 = 310 ∨ ph b b d blk (qh b b k' j').1 (qh b b k' j').2.1 (qh b b k' j').2.2 = none) (v : Int32) : LN b d blk C (uI M k' 0 j' v) := by
  intro k2 i2 j2 c2 h3 h2
  rw [I_uI]
  by_cases q : c2.1 = k' ∧ (0 : Nat) = 0 ∧ c2.2 = j'
  · obtain ⟨rfl, -, rfl⟩ := q
    have e2 := qh_ph hs h2
    rw [e2] at e
    rcases e with e | e
    · exact absurd e h3
    · dsimp only at e
      rw [e] at h2
      cases h2
  · rw [if_neg q]
    exact h _ _ _ _ h3 h2
theorem LN.upm2 {b d blk : Nat} {C M : XO} (h : LN b d blk C M) (hs : b ≤ 48) {k' j' : Nat} (e : ¬ ph b b d blk (qh b b k' j').1 (qh b b k' j').2.1 (qh b b k' j').2.2 = some (k', j')) (v : Int32) : LN b d blk C (uI M k' 0 j' v) := by
  intro k2 i2 j2 c2 h3 h2
  rw [I_uI]
  by_cases q : c2.1 = k' ∧ (0 : Nat) = 0 ∧ c2.2 = j'
  · obtain ⟨rfl, -, rfl⟩ := q
    have e2 := qh_ph hs h2
    rw [e2] at e
    exact absurd h2 e
  · rw [if_neg q]
    exact h _ _ _ _ h3 h2
theorem LN.mono {b d d' blk : Nat} {C M : XO} (h : LN b d blk C M) (hd : ∀ k i j c, ph b b d' blk k i j = some c → ph b b d blk k i j = some c) : LN b d' blk C M := fun k i j c h3 h2 => h k i j c h3 (hd k i j c h2)
def cmod (b k i : Nat) : Bool := [301, 303, 304, 305, 306, 307, 308, 309, 310, 312, 313, 2005, 2006, 405, 406, 407, 408].contains k || ([2011, 2012, 2013, 2014, 604].contains k && (i == b || Nat.ble 49 i)) || ([10, 2001].contains k && i == b)
def mmod (blk k j : Nat) : Bool := [1153, 1154, 1155, 1156, 2101, 2102, 2140, 2141, 2142, 2143, 2144, 2145, 2146, 2147, 2148, 2149, 2150, 2151, 2152].contains k || ([2130].contains k && j == blk) || ([2132].contains k && Nat.beq (j / 40) blk)
def sLN (P : XP) (d : Nat) (C M : XO) : Prop := LN (pb P) d (pk P) C M
def sGA (P : XP) (d e : Nat) (C M : XO) : Prop := ∀ i, i < d → xI M 2144 0 i = (if i = e then xI C 310 i 0 else xI C 310 i 0 - (xI C 310 i 0 - xI C 310 i 0 / (4 : Int32)))
def sHP (P : XP) (d : Nat) (C M : XO) : Prop := ∀ i, i < d → ∀ j : Nat, j < 16 → (j : Int) < (xI C 301 i 0).toInt → xI C 2005 i j = xI M 2147 0 (16 * i + j)
def sEV (P : XP) (d : Nat) (C M : XO) : Prop := ∀ j : Nat, j < 40 → ((j : Int) < (xI C 10 (pb P) 0).toInt ∨ ∃ i, i < d ∧ (j : Int) < (xI C 312 i 0).toInt) → xI C 2001 (pb P) j = xI M 2132 0 (40 * pk P + j) ∧ ∃ p a : Nat, xI C 2001 (pb P) j = nI (100 * p + a) ∧ p < 16 ∧ a < 16
def sPD (P : XP) (d : Nat) (C M : XO) : Prop := (∀ t, t < 40 → (b64 (xL C 605 (pb P) 0) t ↔ b32 (xI M 2101 0 (113 + t / 20)) (t % 20))) ∧ ∀ i, i < d → ∀ t, t < 40 → (b64 (xL C 605 (49 + i) 0) t ↔ b32 (xI M 2102 0 (120 * i + (113 + t / 20))) (t % 20))
def sRF (P : XP) (C M : XO) : Prop := xR C 403 0 = pb P ∧ xR C 404 0 = pb P
def sST (P : XP) (d : Nat) (C M : XO) : Prop := xI M 1153 0 0 = nI d ∧ xI M 1157 0 0 = nI (pc P) ∧ xI M 1158 0 0 = nI (pk P) ∧ xI C 405 0 0 = (if xI M 2121 0 (pk P) < xI M 2107 0 (pc P) then 100 else 150) ∧ d ≤ 4
def sPR (P : XP) (C M : XO) : Prop := ∀ p, p < 8 → ∃ n : Nat, n ≤ 20 ∧ xI M 2105 0 p = nI n ∧ ∀ j, j < n → ∃ o a : Nat, o < 25 ∧ xI M 2103 0 (20 * p + j) = nI o ∧ xI M 2104 0 (20 * p + j) = nI a ∧ (a : Int) ≤ ((sArr 0).getD o 0).toInt
def sSN (P : XP) (d q : Nat) (C M : XO) : Prop := ∀ i, i < d → stOK (fun j => xI M 2102 0 (120 * i + j)) (pT P) (pN P) q
def sOW (P : XP) (d : Nat) (C M : XO) : Prop := ∀ i, i < d → ∀ a, a < 16 → xI M 2140 0 i = nI a → xI M 2101 0 (16 + a) ≠ 0 ∧ ∀ k, k < d → i < k → xI M 2102 0 (120 * k + (16 + a)) ≠ 0
def sFR (P : XP) (d : Nat) (C M : XO) : Prop := ∀ i, i < d → ∃ o l v n p s g : Nat, o < 16 ∧ l < 16 ∧ v < 1000000 ∧ n < 1000000 ∧ p < 8 ∧ s ≤ 20 ∧ g ≤ 16 ∧ xI M 2140 0 i = nI o ∧ xI M 2141 0 i = nI l ∧ xI M 2142 0 i = nI v ∧ xI M 2143 0 i = nI n ∧ xI M 2145 0 i = nI p ∧ xI M 2146 0 i = nI s ∧ xI M 2150 0 i = nI g - 1
def sHS (P : XP) (d : Nat) (C M : XO) : Prop := ∀ i, i < d → ∃ n : Nat, n ≤ 16 ∧ xI M 2148 0 i = nI n ∧ ∀ j, j < n → ∃ v : Nat, v < 1000000 ∧ xI M 2147 0 (16 * i + j) = nI v
def sMM (P : XP) (d : Nat) (C M : XO) : Prop := ∀ i, i < d → ∀ j, j < 16 → ∃ v : Nat, v < 1000000 ∧ xI M 2149 0 (16 * i + j) = nI v
def sGS (P : XP) (d s : Nat) (C M : XO) : Prop := ∃ g : Nat → Nat, (∀ i, i < d → xI M 2144 0 i = nI (g i)) ∧ sumN g d ≤ s ∧ s ≤ 600
def sEC (P : XP) (d q : Nat) (C M : XO) : Prop := (∃ n : Nat, xI M 2130 0 (pk P) = nI n ∧ 20 * n + q ≤ pL P) ∧ ∀ i, i < d → ∃ n : Nat, xI M 2152 0 i = nI n ∧ 20 * n + q ≤ pL P
def sRB (P : XP) (d q : Nat) (C M : XO) : Prop := (∃ n : Nat, xI M 1154 0 0 = nI n ∧ n + 3 * q ≤ 1800) ∧ ∀ i, i < d → ∃ n : Nat, xI M 2151 0 i = nI n ∧ n + 3 * q ≤ 1800
def sFA (P : XP) (C M : XO) : Prop := ∀ k i j, cmod (pb P) k i = false → xI C k i j = xI (pC P) k i j
def sFB (P : XP) (C M : XO) : Prop := ∀ k i j, mmod (pk P) k j = false → xI M k i j = xI (pM P) k i j
def sFL (P : XP) (C M : XO) : Prop := ∀ k i j, k ≠ 605 ∨ (i ≠ pb P ∧ i < 49) → xL C k i j = xL (pC P) k i j
def sFM (P : XP) (C M : XO) : Prop := ∀ k i j, xL M k i j = xL (pM P) k i j
theorem sGA_cg {P : XP} {d e : Nat} {C C' M M' : XO} (c310 : agI 310 C C') (m2144 : agI 2144 M M') (h : sGA P d e C M) : sGA P d e C' M' := by
  unfold agI at c310; unfold agI at m2144
  unfold sGA at h ⊢
  simp only [c310, m2144]
  exact h
theorem sHP_cg {P : XP} {d : Nat} {C C' M M' : XO} (c2005 : agI 2005 C C') (c301 : agI 301 C C') (m2147 : agI 2147 M M') (h : sHP P d C M) : sHP P d C' M' := by
  unfold agI at c2005; unfold agI at c301; unfold agI at m2147
  unfold sHP at h ⊢
  simp only [c2005, c301, m2147]
  exact h
theorem sEV_cg {P : XP} {d : Nat} {C C' M M' : XO} (c2001 : agI 2001 C C') (c10 : agI 10 C C') (c312 : agI 312 C C') (m2132 : agI 2132 M M') (h : sEV P d C M) : sEV P d C' M' := by
  unfold agI at c2001; unfold agI at c10; unfold agI at c312; unfold agI at m2132
  unfold sEV at h ⊢
  simp only [c2001, c10, c312, m2132]
  exact h
theorem sPD_cg {P : XP} {d : Nat} {C C' M M' : XO} (l605 : agL 605 C C') (m2101 : agI 2101 M M') (m2102 : agI 2102 M M') (h : sPD P d C M) : sPD P d C' M' := by
  unfold agL at l605; unfold agI at m2101; unfold agI at m2102
  unfold sPD at h ⊢
  simp only [l605, m2101, m2102]
  exact h
theorem sRF_cg {P : XP} {C C' M M' : XO} (hr : ∀ f i, xR C' f i = xR C f i) (h : sRF P C M) : sRF P C' M' := by
  skip
  unfold sRF at h ⊢
  simp only [hr]
  exact h
theorem sST_cg {P : XP} {d : Nat} {C C' M M' : XO} (c405 : agI 405 C C') (m1153 : agI 1153 M M') (m1157 : agI 1157 M M') (m1158 : agI 1158 M M') (m2121 : agI 2121 M M') (m2107 : agI 2107 M M') (h : sST P d C M) : sST P d C' M' := by
  unfold agI at c405; unfold agI at m1153; unfold agI at m1157; unfold agI at m1158; unfold agI at m2121; unfold agI at m2107
  unfold sST at h ⊢
  simp only [c405, m1153, m1157, m1158, m2121, m2107]
  exact h
theorem sPR_cg {P : XP} {C C' M M' : XO} (m2103 : agI 2103 M M') (m2104 : agI 2104 M M') (m2105 : agI 2105 M M') (h : sPR P C M) : sPR P C' M' := by
  unfold agI at m2103; unfold agI at m2104; unfold agI at m2105
  unfold sPR at h ⊢
  simp only [m2103, m2104, m2105]
  exact h
theorem sSN_cg {P : XP} {d q : Nat} {C C' M M' : XO} (m2102 : agI 2102 M M') (h : sSN P d q C M) : sSN P d q C' M' := by
  unfold agI at m2102
  unfold sSN at h ⊢
  simp only [m2102]
  exact h
theorem sOW_cg {P : XP} {d : Nat} {C C' M M' : XO} (m2101 : agI 2101 M M') (m2102 : agI 2102 M M') (m2140 : agI 2140 M M') (h : sOW P d C M) : sOW P d C' M' := by
  unfold agI at m2101; unfold agI at m2102; unfold agI at m2140
  unfold sOW at h ⊢
  simp only [m2101, m2102, m2140]
  exact h
theorem sFR_cg {P : XP} {d : Nat} {C C' M M' : XO} (m2140 : agI 2140 M M') (m2141 : agI 2141 M M') (m2142 : agI 2142 M M') (m2143 : agI 2143 M M') (m2145 : agI 2145 M M') (m2146 : agI 2146 M M') (m2150 : agI 2150 M M') (h : sFR P d C M) : sFR P d C' M' := by
  unfold agI at m2140; unfold agI at m2141; unfold agI at m2142; unfold agI at m2143; unfold agI at m2145; unfold agI at m2146; unfold agI at m2150
  unfold sFR at h ⊢
  simp only [m2140, m2141, m2142, m2143, m2145, m2146, m2150]
  exact h
theorem sHS_cg {P : XP} {d : Nat} {C C' M M' : XO} (m2148 : agI 2148 M M') (m2147 : agI 2147 M M') (h : sHS P d C M) : sHS P d C' M' := by
  unfold agI at m2148; unfold agI at m2147
  unfold sHS at h ⊢
  simp only [m2148, m2147]
  exact h
theorem sMM_cg {P : XP} {d : Nat} {C C' M M' : XO} (m2149 : agI 2149 M M') (h : sMM P d C M) : sMM P d C' M' := by
  unfold agI at m2149
  unfold sMM at h ⊢
  simp only [m2149]
  exact h
theorem sGS_cg {P : XP} {d s : Nat} {C C' M M' : XO} (m2144 : agI 2144 M M') (h : sGS P d s C M) : sGS P d s C' M' := by
  unfold agI at m2144
  unfold sGS at h ⊢
  simp only [m2144]
  exact h
theorem sEC_cg {P : XP} {d q : Nat} {C C' M M' : XO} (m2130 : agI 2130 M M') (m2152 : agI 2152 M M') (h : sEC P d q C M) : sEC P d q C' M' := by
  unfold agI at m2130; unfold agI at m2152
  unfold sEC at h ⊢
  simp only [m2130, m2152]
  exact h
theorem sRB_cg {P : XP} {d q : Nat} {C C' M M' : XO} (m1154 : agI 1154 M M') (m2151 : agI 2151 M M') (h : sRB P d q C M) : sRB P d q C' M' := by
  unfold agI at m1154; unfold agI at m2151
  unfold sRB at h ⊢
  simp only [m1154, m2151]
  exact h
def lnC : List Nat := [2011, 2012, 2013, 2014, 604, 10, 406, 301, 303, 304, 305, 306, 307, 308, 309, 312, 313, 2006, 2008, 2009, 2010]
def lnM : List Nat := [2101, 2102, 2130, 1154, 2148, 2150, 2140, 2141, 2142, 2143, 2145, 2146, 2152, 2151, 2149, 2103, 2104, 2105]
theorem ph_in {b d blk k i j : Nat} {c : Nat × Nat} (h3 : k ≠ 310) (h : ph b b d blk k i j = some c) : lnC.contains k = true ∧ lnM.contains c.1 = true := by
  unfold ph at h
  by_cases q : k = 2011
  · subst q; rw [if_pos rfl] at h; split at h
    · cases h; exact ⟨rfl, rfl⟩
    · split at h <;> cases h; exact ⟨rfl, rfl⟩
  rw [if_neg q] at h; clear q
  by_cases q : k = 2012
  · subst q; rw [if_pos rfl] at h; split at h
    · cases h; exact ⟨rfl, rfl⟩
    · split at h <;> cases h; exact ⟨rfl, rfl⟩
  rw [if_neg q] at h; clear q
  by_cases q : k = 2013
  · subst q; rw [if_pos rfl] at h; split at h
    · cases h; exact ⟨rfl, rfl⟩
    · split at h <;> cases h; exact ⟨rfl, rfl⟩
  rw [if_neg q] at h; clear q
  by_cases q : k = 2014
  · subst q; rw [if_pos rfl] at h; split at h
    · cases h; exact ⟨rfl, rfl⟩
    · split at h <;> cases h; exact ⟨rfl, rfl⟩
  rw [if_neg q] at h; clear q
  by_cases q : k = 604
  · subst q; rw [if_pos rfl] at h; split at h
    · cases h; exact ⟨rfl, rfl⟩
    · split at h <;> cases h; exact ⟨rfl, rfl⟩
  rw [if_neg q] at h; clear q
  by_cases q : k = 10
  · subst q; rw [if_pos rfl] at h; split at h <;> cases h; exact ⟨rfl, rfl⟩
  rw [if_neg q] at h; clear q
  by_cases q : k = 406
  · subst q; rw [if_pos rfl] at h; split at h <;> cases h; exact ⟨rfl, rfl⟩
  rw [if_neg q] at h; clear q
  by_cases q : k = 301
  · subst q; rw [if_pos rfl] at h; split at h <;> cases h; exact ⟨rfl, rfl⟩
  rw [if_neg q] at h; clear q
  by_cases q : k = 303
  · subst q; rw [if_pos rfl] at h; split at h <;> cases h; exact ⟨rfl, rfl⟩
  rw [if_neg q] at h; clear q
  by_cases q : k = 304
  · subst q; rw [if_pos rfl] at h; split at h <;> cases h; exact ⟨rfl, rfl⟩
  rw [if_neg q] at h; clear q
  by_cases q : k = 305
  · subst q; rw [if_pos rfl] at h; split at h <;> cases h; exact ⟨rfl, rfl⟩
  rw [if_neg q] at h; clear q
  by_cases q : k = 306
  · subst q; rw [if_pos rfl] at h; split at h <;> cases h; exact ⟨rfl, rfl⟩
  rw [if_neg q] at h; clear q
  by_cases q : k = 307
  · subst q; rw [if_pos rfl] at h; split at h <;> cases h; exact ⟨rfl, rfl⟩
  rw [if_neg q] at h; clear q
  by_cases q : k = 308
  · subst q; rw [if_pos rfl] at h; split at h <;> cases h; exact ⟨rfl, rfl⟩
  rw [if_neg q] at h; clear q
  by_cases q : k = 309
  · subst q; rw [if_pos rfl] at h; split at h <;> cases h; exact ⟨rfl, rfl⟩
  rw [if_neg q] at h; clear q
  by_cases q : k = 310
  · subst q; exact absurd rfl h3
  rw [if_neg q] at h; clear q
  by_cases q : k = 312
  · subst q; rw [if_pos rfl] at h; split at h <;> cases h; exact ⟨rfl, rfl⟩
  rw [if_neg q] at h; clear q
  by_cases q : k = 313
  · subst q; rw [if_pos rfl] at h; split at h <;> cases h; exact ⟨rfl, rfl⟩
  rw [if_neg q] at h; clear q
  by_cases q : k = 2006
  · subst q; rw [if_pos rfl] at h; split at h <;> cases h; exact ⟨rfl, rfl⟩
  rw [if_neg q] at h; clear q
  by_cases q : k = 2008
  · subst q; rw [if_pos rfl] at h; split at h <;> cases h; exact ⟨rfl, rfl⟩
  rw [if_neg q] at h; clear q
  by_cases q : k = 2009
  · subst q; rw [if_pos rfl] at h; split at h <;> cases h; exact ⟨rfl, rfl⟩
  rw [if_neg q] at h; clear q
  by_cases q : k = 2010
  · subst q; rw [if_pos rfl] at h; split at h <;> cases h; exact ⟨rfl, rfl⟩
  rw [if_neg q] at h; clear q
  cases h
theorem sLN_cg {P : XP} {d : Nat} {C C' M M' : XO} (hi : ∀ k, lnC.contains k = true → agI k C C') (mi : ∀ k, lnM.contains k = true → agI k M M') (h : sLN P d C M) : sLN P d C' M' := by
  intro k i j c h3 h2
  obtain ⟨a1, a2⟩ := ph_in h3 h2
  have e1 : xI C' k i j = xI C k i j := hi k a1 i j
  have e2 : xI M' c.1 0 c.2 = xI M c.1 0 c.2 := mi c.1 a2 0 c.2
  rw [e1, e2]
  exact h k i j c h3 h2
/-- all but that the state as it stands is in order -/
def MS0 (P : XP) (d e q s : Nat) (C M : XO) : Prop := sZP P ∧ sLN P d C M ∧ sGA P d e C M ∧ sHP P d C M ∧ sEV P d C M ∧ sPD P d C M ∧ sRF P C M ∧ sST P d C M ∧ sPR P C M ∧ sSN P d q C M ∧ sOW P d C M ∧ sFR P d C M ∧ sHS P d C M ∧ sMM P d C M ∧ sGS P d s C M ∧ sEC P d q C M ∧ sRB P d q C M ∧ sFA P C M ∧ sFB P C M ∧ sFL P C M ∧ sFM P C M
theorem MS0.ZP {P : XP} {d e q s : Nat} {C M : XO} (h : MS0 P d e q s C M) : sZP P := h.1
theorem MS0.LN {P : XP} {d e q s : Nat} {C M : XO} (h : MS0 P d e q s C M) : sLN P d C M := h.2.1
theorem MS0.GA {P : XP} {d e q s : Nat} {C M : XO} (h : MS0 P d e q s C M) : sGA P d e C M := h.2.2.1
theorem MS0.HP {P : XP} {d e q s : Nat} {C M : XO} (h : MS0 P d e q s C M) : sHP P d C M := h.2.2.2.1
theorem MS0.EV {P : XP} {d e q s : Nat} {C M : XO} (h : MS0 P d e q s C M) : sEV P d C M := h.2.2.2.2.1
theorem MS0.PD {P : XP} {d e q s : Nat} {C M : XO} (h : MS0 P d e q s C M) : sPD P d C M := h.2.2.2.2.2.1
theorem MS0.RF {P : XP} {d e q s : Nat} {C M : XO} (h : MS0 P d e q s C M) : sRF P C M := h.2.2.2.2.2.2.1
theorem MS0.ST {P : XP} {d e q s : Nat} {C M : XO} (h : MS0 P d e q s C M) : sST P d C M := h.2.2.2.2.2.2.2.1
theorem MS0.PR {P : XP} {d e q s : Nat} {C M : XO} (h : MS0 P d e q s C M) : sPR P C M := h.2.2.2.2.2.2.2.2.1
theorem MS0.SN {P : XP} {d e q s : Nat} {C M : XO} (h : MS0 P d e q s C M) : sSN P d q C M := h.2.2.2.2.2.2.2.2.2.1
theorem MS0.OW {P : XP} {d e q s : Nat} {C M : XO} (h : MS0 P d e q s C M) : sOW P d C M := h.2.2.2.2.2.2.2.2.2.2.1
theorem MS0.FR {P : XP} {d e q s : Nat} {C M : XO} (h : MS0 P d e q s C M) : sFR P d C M := h.2.2.2.2.2.2.2.2.2.2.2.1
theorem MS0.HS {P : XP} {d e q s : Nat} {C M : XO} (h : MS0 P d e q s C M) : sHS P d C M := h.2.2.2.2.2.2.2.2.2.2.2.2.1
theorem MS0.MM {P : XP} {d e q s : Nat} {C M : XO} (h : MS0 P d e q s C M) : sMM P d C M := h.2.2.2.2.2.2.2.2.2.2.2.2.2.1
theorem MS0.GS {P : XP} {d e q s : Nat} {C M : XO} (h : MS0 P d e q s C M) : sGS P d s C M := h.2.2.2.2.2.2.2.2.2.2.2.2.2.2.1
theorem MS0.EC {P : XP} {d e q s : Nat} {C M : XO} (h : MS0 P d e q s C M) : sEC P d q C M := h.2.2.2.2.2.2.2.2.2.2.2.2.2.2.2.1
theorem MS0.RB {P : XP} {d e q s : Nat} {C M : XO} (h : MS0 P d e q s C M) : sRB P d q C M := h.2.2.2.2.2.2.2.2.2.2.2.2.2.2.2.2.1
theorem MS0.FA {P : XP} {d e q s : Nat} {C M : XO} (h : MS0 P d e q s C M) : sFA P C M := h.2.2.2.2.2.2.2.2.2.2.2.2.2.2.2.2.2.1
theorem MS0.FB {P : XP} {d e q s : Nat} {C M : XO} (h : MS0 P d e q s C M) : sFB P C M := h.2.2.2.2.2.2.2.2.2.2.2.2.2.2.2.2.2.2.1
theorem MS0.FL {P : XP} {d e q s : Nat} {C M : XO} (h : MS0 P d e q s C M) : sFL P C M := h.2.2.2.2.2.2.2.2.2.2.2.2.2.2.2.2.2.2.2.1
theorem MS0.FM {P : XP} {d e q s : Nat} {C M : XO} (h : MS0 P d e q s C M) : sFM P C M := h.2.2.2.2.2.2.2.2.2.2.2.2.2.2.2.2.2.2.2.2
def sCS (P : XP) (q : Nat) (M : XO) : Prop := stOK (fun j => xI M 2101 0 j) (pT P) (pN P) q
def MS (P : XP) (d e q s : Nat) (C M : XO) : Prop := MS0 P d e q s C M ∧ sCS P q M
theorem lnd (l s : List Nat) {k : Nat} (hk : l.contains k = true) (h : l.all (fun x => !s.contains x) = true) : s.contains k = false := by
  have h1 := List.contains_iff_mem.mp hk
  have h2 := List.all_eq_true.mp h k h1
  simpa using h2
theorem MS0.stHeap {P : XP} {d e q s : Nat} {C C' M M' : XO} (h : MS0 P d e q s C M) (hi : ∀ k, ([2005, 301] : List Nat).contains k = false → agI k C C') (hl : ∀ k, agL k C C') (mi : ∀ k, ([2147, 2148] : List Nat).contains k = false → agI k M M') (ml : ∀ k, agL k M M') (hr : ∀ f i, xR C' f i = xR C f i) (hLN : sLN P d C' M') (hHP : sHP P d C' M') (hHS : sHS P d C' M') (hFA : sFA P C' M') (hFB : sFB P C' M') : MS0 P d e q s C' M' := ⟨h.ZP, hLN, sGA_cg (hi 310 rfl) (mi 2144 rfl) h.GA, hHP, sEV_cg (hi 2001 rfl) (hi 10 rfl) (hi 312 rfl) (mi 2132 rfl) h.EV, sPD_cg (hl 605) (mi 2101 rfl) (mi 2102 rfl) h.PD, sRF_cg hr h.RF, sST_cg (hi 405 rfl) (mi 1153 rfl) (mi 1157 rfl) (mi 1158 rfl) (mi 2121 rfl) (mi 2107 rfl) h.ST, sPR_cg (mi 2103 rfl) (mi 2104 rfl) (mi 2105 rfl) h.PR, sSN_cg (mi 2102 rfl) h.SN, sOW_cg (mi 2101 rfl) (mi 2102 rfl) (mi 2140 rfl) h.OW, sFR_cg (mi 2140 rfl) (mi 2141 rfl) (mi 2142 rfl) (mi 2143 rfl) (mi 2145 rfl) (mi 2146 rfl) (mi 2150 rfl) h.FR, hHS, sMM_cg (mi 2149 rfl) h.MM, sGS_cg (mi 2144 rfl) h.GS, sEC_cg (mi 2130 rfl) (mi 2152 rfl) h.EC, sRB_cg (mi 1154 rfl) (mi 2151 rfl) h.RB, hFA, hFB, (fun k i j z => (hl k i j).trans (h.FL k i j z)), (fun k i j => (ml k i j).trans (h.FM k i j))⟩
theorem MS0.stTake {P : XP} {d e q s : Nat} {C C' M M' : XO} (h : MS0 P d e q s C M) (hi : ∀ k, ([301] : List Nat).contains k = false → agI k C C') (hl : ∀ k, agL k C C') (mi : ∀ k, ([2148] : List Nat).contains k = false → agI k M M') (ml : ∀ k, agL k M M') (hr : ∀ f i, xR C' f i = xR C f i) (hLN : sLN P d C' M') (hHP : sHP P d C' M') (hHS : sHS P d C' M') (hFA : sFA P C' M') (hFB : sFB P C' M') : MS0 P d e q s C' M' := ⟨h.ZP, hLN, sGA_cg (hi 310 rfl) (mi 2144 rfl) h.GA, hHP, sEV_cg (hi 2001 rfl) (hi 10 rfl) (hi 312 rfl) (mi 2132 rfl) h.EV, sPD_cg (hl 605) (mi 2101 rfl) (mi 2102 rfl) h.PD, sRF_cg hr h.RF, sST_cg (hi 405 rfl) (mi 1153 rfl) (mi 1157 rfl) (mi 1158 rfl) (mi 2121 rfl) (mi 2107 rfl) h.ST, sPR_cg (mi 2103 rfl) (mi 2104 rfl) (mi 2105 rfl) h.PR, sSN_cg (mi 2102 rfl) h.SN, sOW_cg (mi 2101 rfl) (mi 2102 rfl) (mi 2140 rfl) h.OW, sFR_cg (mi 2140 rfl) (mi 2141 rfl) (mi 2142 rfl) (mi 2143 rfl) (mi 2145 rfl) (mi 2146 rfl) (mi 2150 rfl) h.FR, hHS, sMM_cg (mi 2149 rfl) h.MM, sGS_cg (mi 2144 rfl) h.GS, sEC_cg (mi 2130 rfl) (mi 2152 rfl) h.EC, sRB_cg (mi 1154 rfl) (mi 2151 rfl) h.RB, hFA, hFB, (fun k i j z => (hl k i j).trans (h.FL k i j z)), (fun k i j => (ml k i j).trans (h.FM k i j))⟩
theorem MS0.stNext {P : XP} {d e q s : Nat} {C C' M M' : XO} (h : MS0 P d e q s C M) (hi : ∀ k, ([309] : List Nat).contains k = false → agI k C C') (hl : ∀ k, agL k C C') (mi : ∀ k, ([2146] : List Nat).contains k = false → agI k M M') (ml : ∀ k, agL k M M') (hr : ∀ f i, xR C' f i = xR C f i) (hLN : sLN P d C' M') (hFR : sFR P d C' M') (hFA : sFA P C' M') (hFB : sFB P C' M') : MS0 P d e q s C' M' := ⟨h.ZP, hLN, sGA_cg (hi 310 rfl) (mi 2144 rfl) h.GA, sHP_cg (hi 2005 rfl) (hi 301 rfl) (mi 2147 rfl) h.HP, sEV_cg (hi 2001 rfl) (hi 10 rfl) (hi 312 rfl) (mi 2132 rfl) h.EV, sPD_cg (hl 605) (mi 2101 rfl) (mi 2102 rfl) h.PD, sRF_cg hr h.RF, sST_cg (hi 405 rfl) (mi 1153 rfl) (mi 1157 rfl) (mi 1158 rfl) (mi 2121 rfl) (mi 2107 rfl) h.ST, sPR_cg (mi 2103 rfl) (mi 2104 rfl) (mi 2105 rfl) h.PR, sSN_cg (mi 2102 rfl) h.SN, sOW_cg (mi 2101 rfl) (mi 2102 rfl) (mi 2140 rfl) h.OW, hFR, sHS_cg (mi 2148 rfl) (mi 2147 rfl) h.HS, sMM_cg (mi 2149 rfl) h.MM, sGS_cg (mi 2144 rfl) h.GS, sEC_cg (mi 2130 rfl) (mi 2152 rfl) h.EC, sRB_cg (mi 1154 rfl) (mi 2151 rfl) h.RB, hFA, hFB, (fun k i j z => (hl k i j).trans (h.FL k i j z)), (fun k i j => (ml k i j).trans (h.FM k i j))⟩
theorem MS0.stGas {P : XP} {d e q s s' : Nat} {C C' M M' : XO} (h : MS0 P d e q s C M) (hi : ∀ k, ([310] : List Nat).contains k = false → agI k C C') (hl : ∀ k, agL k C C') (mi : ∀ k, ([2144] : List Nat).contains k = false → agI k M M') (ml : ∀ k, agL k M M') (hr : ∀ f i, xR C' f i = xR C f i) (hGA : sGA P d e C' M') (hGS : sGS P d s' C' M') (hFA : sFA P C' M') (hFB : sFB P C' M') : MS0 P d e q s' C' M' := ⟨h.ZP, sLN_cg (fun k hk => hi k (lnd _ _ hk (by decide +kernel))) (fun k hk => mi k (lnd _ _ hk (by decide +kernel))) h.LN, hGA, sHP_cg (hi 2005 rfl) (hi 301 rfl) (mi 2147 rfl) h.HP, sEV_cg (hi 2001 rfl) (hi 10 rfl) (hi 312 rfl) (mi 2132 rfl) h.EV, sPD_cg (hl 605) (mi 2101 rfl) (mi 2102 rfl) h.PD, sRF_cg hr h.RF, sST_cg (hi 405 rfl) (mi 1153 rfl) (mi 1157 rfl) (mi 1158 rfl) (mi 2121 rfl) (mi 2107 rfl) h.ST, sPR_cg (mi 2103 rfl) (mi 2104 rfl) (mi 2105 rfl) h.PR, sSN_cg (mi 2102 rfl) h.SN, sOW_cg (mi 2101 rfl) (mi 2102 rfl) (mi 2140 rfl) h.OW, sFR_cg (mi 2140 rfl) (mi 2141 rfl) (mi 2142 rfl) (mi 2143 rfl) (mi 2145 rfl) (mi 2146 rfl) (mi 2150 rfl) h.FR, sHS_cg (mi 2148 rfl) (mi 2147 rfl) h.HS, sMM_cg (mi 2149 rfl) h.MM, hGS, sEC_cg (mi 2130 rfl) (mi 2152 rfl) h.EC, sRB_cg (mi 1154 rfl) (mi 2151 rfl) h.RB, hFA, hFB, (fun k i j z => (hl k i j).trans (h.FL k i j z)), (fun k i j => (ml k i j).trans (h.FM k i j))⟩
theorem MS0.stI {P : XP} {d e q s : Nat} {C C' M M' : XO} (h : MS0 P d e q s C M) (hi : ∀ k, ([2011] : List Nat).contains k = false → agI k C C') (hl : ∀ k, agL k C C') (mi : ∀ k, ([2101] : List Nat).contains k = false → agI k M M') (ml : ∀ k, agL k M M') (hr : ∀ f i, xR C' f i = xR C f i) (hLN : sLN P d C' M') (hPD : sPD P d C' M') (hOW : sOW P d C' M') (hFA : sFA P C' M') (hFB : sFB P C' M') : MS0 P d e q s C' M' := ⟨h.ZP, hLN, sGA_cg (hi 310 rfl) (mi 2144 rfl) h.GA, sHP_cg (hi 2005 rfl) (hi 301 rfl) (mi 2147 rfl) h.HP, sEV_cg (hi 2001 rfl) (hi 10 rfl) (hi 312 rfl) (mi 2132 rfl) h.EV, hPD, sRF_cg hr h.RF, sST_cg (hi 405 rfl) (mi 1153 rfl) (mi 1157 rfl) (mi 1158 rfl) (mi 2121 rfl) (mi 2107 rfl) h.ST, sPR_cg (mi 2103 rfl) (mi 2104 rfl) (mi 2105 rfl) h.PR, sSN_cg (mi 2102 rfl) h.SN, hOW, sFR_cg (mi 2140 rfl) (mi 2141 rfl) (mi 2142 rfl) (mi 2143 rfl) (mi 2145 rfl) (mi 2146 rfl) (mi 2150 rfl) h.FR, sHS_cg (mi 2148 rfl) (mi 2147 rfl) h.HS, sMM_cg (mi 2149 rfl) h.MM, sGS_cg (mi 2144 rfl) h.GS, sEC_cg (mi 2130 rfl) (mi 2152 rfl) h.EC, sRB_cg (mi 1154 rfl) (mi 2151 rfl) h.RB, hFA, hFB, (fun k i j z => (hl k i j).trans (h.FL k i j z)), (fun k i j => (ml k i j).trans (h.FM k i j))⟩
theorem MS0.stII {P : XP} {d e q s : Nat} {C C' M M' : XO} (h : MS0 P d e q s C M) (hi : ∀ k, ([2012] : List Nat).contains k = false → agI k C C') (hl : ∀ k, agL k C C') (mi : ∀ k, ([2101] : List Nat).contains k = false → agI k M M') (ml : ∀ k, agL k M M') (hr : ∀ f i, xR C' f i = xR C f i) (hLN : sLN P d C' M') (hPD : sPD P d C' M') (hOW : sOW P d C' M') (hFA : sFA P C' M') (hFB : sFB P C' M') : MS0 P d e q s C' M' := ⟨h.ZP, hLN, sGA_cg (hi 310 rfl) (mi 2144 rfl) h.GA, sHP_cg (hi 2005 rfl) (hi 301 rfl) (mi 2147 rfl) h.HP, sEV_cg (hi 2001 rfl) (hi 10 rfl) (hi 312 rfl) (mi 2132 rfl) h.EV, hPD, sRF_cg hr h.RF, sST_cg (hi 405 rfl) (mi 1153 rfl) (mi 1157 rfl) (mi 1158 rfl) (mi 2121 rfl) (mi 2107 rfl) h.ST, sPR_cg (mi 2103 rfl) (mi 2104 rfl) (mi 2105 rfl) h.PR, sSN_cg (mi 2102 rfl) h.SN, hOW, sFR_cg (mi 2140 rfl) (mi 2141 rfl) (mi 2142 rfl) (mi 2143 rfl) (mi 2145 rfl) (mi 2146 rfl) (mi 2150 rfl) h.FR, sHS_cg (mi 2148 rfl) (mi 2147 rfl) h.HS, sMM_cg (mi 2149 rfl) h.MM, sGS_cg (mi 2144 rfl) h.GS, sEC_cg (mi 2130 rfl) (mi 2152 rfl) h.EC, sRB_cg (mi 1154 rfl) (mi 2151 rfl) h.RB, hFA, hFB, (fun k i j z => (hl k i j).trans (h.FL k i j z)), (fun k i j => (ml k i j).trans (h.FM k i j))⟩
theorem MS0.stIII {P : XP} {d e q s : Nat} {C C' M M' : XO} (h : MS0 P d e q s C M) (hi : ∀ k, ([2013] : List Nat).contains k = false → agI k C C') (hl : ∀ k, agL k C C') (mi : ∀ k, ([2101] : List Nat).contains k = false → agI k M M') (ml : ∀ k, agL k M M') (hr : ∀ f i, xR C' f i = xR C f i) (hLN : sLN P d C' M') (hPD : sPD P d C' M') (hOW : sOW P d C' M') (hFA : sFA P C' M') (hFB : sFB P C' M') : MS0 P d e q s C' M' := ⟨h.ZP, hLN, sGA_cg (hi 310 rfl) (mi 2144 rfl) h.GA, sHP_cg (hi 2005 rfl) (hi 301 rfl) (mi 2147 rfl) h.HP, sEV_cg (hi 2001 rfl) (hi 10 rfl) (hi 312 rfl) (mi 2132 rfl) h.EV, hPD, sRF_cg hr h.RF, sST_cg (hi 405 rfl) (mi 1153 rfl) (mi 1157 rfl) (mi 1158 rfl) (mi 2121 rfl) (mi 2107 rfl) h.ST, sPR_cg (mi 2103 rfl) (mi 2104 rfl) (mi 2105 rfl) h.PR, sSN_cg (mi 2102 rfl) h.SN, hOW, sFR_cg (mi 2140 rfl) (mi 2141 rfl) (mi 2142 rfl) (mi 2143 rfl) (mi 2145 rfl) (mi 2146 rfl) (mi 2150 rfl) h.FR, sHS_cg (mi 2148 rfl) (mi 2147 rfl) h.HS, sMM_cg (mi 2149 rfl) h.MM, sGS_cg (mi 2144 rfl) h.GS, sEC_cg (mi 2130 rfl) (mi 2152 rfl) h.EC, sRB_cg (mi 1154 rfl) (mi 2151 rfl) h.RB, hFA, hFB, (fun k i j z => (hl k i j).trans (h.FL k i j z)), (fun k i j => (ml k i j).trans (h.FM k i j))⟩
theorem MS0.stIV {P : XP} {d e q s : Nat} {C C' M M' : XO} (h : MS0 P d e q s C M) (hi : ∀ k, ([2014] : List Nat).contains k = false → agI k C C') (hl : ∀ k, agL k C C') (mi : ∀ k, ([2101] : List Nat).contains k = false → agI k M M') (ml : ∀ k, agL k M M') (hr : ∀ f i, xR C' f i = xR C f i) (hLN : sLN P d C' M') (hPD : sPD P d C' M') (hOW : sOW P d C' M') (hFA : sFA P C' M') (hFB : sFB P C' M') : MS0 P d e q s C' M' := ⟨h.ZP, hLN, sGA_cg (hi 310 rfl) (mi 2144 rfl) h.GA, sHP_cg (hi 2005 rfl) (hi 301 rfl) (mi 2147 rfl) h.HP, sEV_cg (hi 2001 rfl) (hi 10 rfl) (hi 312 rfl) (mi 2132 rfl) h.EV, hPD, sRF_cg hr h.RF, sST_cg (hi 405 rfl) (mi 1153 rfl) (mi 1157 rfl) (mi 1158 rfl) (mi 2121 rfl) (mi 2107 rfl) h.ST, sPR_cg (mi 2103 rfl) (mi 2104 rfl) (mi 2105 rfl) h.PR, sSN_cg (mi 2102 rfl) h.SN, hOW, sFR_cg (mi 2140 rfl) (mi 2141 rfl) (mi 2142 rfl) (mi 2143 rfl) (mi 2145 rfl) (mi 2146 rfl) (mi 2150 rfl) h.FR, sHS_cg (mi 2148 rfl) (mi 2147 rfl) h.HS, sMM_cg (mi 2149 rfl) h.MM, sGS_cg (mi 2144 rfl) h.GS, sEC_cg (mi 2130 rfl) (mi 2152 rfl) h.EC, sRB_cg (mi 1154 rfl) (mi 2151 rfl) h.RB, hFA, hFB, (fun k i j z => (hl k i j).trans (h.FL k i j z)), (fun k i j => (ml k i j).trans (h.FM k i j))⟩
theorem MS0.stB {P : XP} {d e q s : Nat} {C C' M M' : XO} (h : MS0 P d e q s C M) (hi : ∀ k, ([604] : List Nat).contains k = false → agI k C C') (hl : ∀ k, agL k C C') (mi : ∀ k, ([2101] : List Nat).contains k = false → agI k M M') (ml : ∀ k, agL k M M') (hr : ∀ f i, xR C' f i = xR C f i) (hLN : sLN P d C' M') (hPD : sPD P d C' M') (hOW : sOW P d C' M') (hFA : sFA P C' M') (hFB : sFB P C' M') : MS0 P d e q s C' M' := ⟨h.ZP, hLN, sGA_cg (hi 310 rfl) (mi 2144 rfl) h.GA, sHP_cg (hi 2005 rfl) (hi 301 rfl) (mi 2147 rfl) h.HP, sEV_cg (hi 2001 rfl) (hi 10 rfl) (hi 312 rfl) (mi 2132 rfl) h.EV, hPD, sRF_cg hr h.RF, sST_cg (hi 405 rfl) (mi 1153 rfl) (mi 1157 rfl) (mi 1158 rfl) (mi 2121 rfl) (mi 2107 rfl) h.ST, sPR_cg (mi 2103 rfl) (mi 2104 rfl) (mi 2105 rfl) h.PR, sSN_cg (mi 2102 rfl) h.SN, hOW, sFR_cg (mi 2140 rfl) (mi 2141 rfl) (mi 2142 rfl) (mi 2143 rfl) (mi 2145 rfl) (mi 2146 rfl) (mi 2150 rfl) h.FR, sHS_cg (mi 2148 rfl) (mi 2147 rfl) h.HS, sMM_cg (mi 2149 rfl) h.MM, sGS_cg (mi 2144 rfl) h.GS, sEC_cg (mi 2130 rfl) (mi 2152 rfl) h.EC, sRB_cg (mi 1154 rfl) (mi 2151 rfl) h.RB, hFA, hFB, (fun k i j z => (hl k i j).trans (h.FL k i j z)), (fun k i j => (ml k i j).trans (h.FM k i j))⟩
theorem MS0.stBack {P : XP} {d e q s : Nat} {C C' M M' : XO} (h : MS0 P d e q s C M) (hi : ∀ k, ([406] : List Nat).contains k = false → agI k C C') (hl : ∀ k, agL k C C') (mi : ∀ k, ([1154] : List Nat).contains k = false → agI k M M') (ml : ∀ k, agL k M M') (hr : ∀ f i, xR C' f i = xR C f i) (hLN : sLN P d C' M') (hRB : sRB P d q C' M') (hFA : sFA P C' M') (hFB : sFB P C' M') : MS0 P d e q s C' M' := ⟨h.ZP, hLN, sGA_cg (hi 310 rfl) (mi 2144 rfl) h.GA, sHP_cg (hi 2005 rfl) (hi 301 rfl) (mi 2147 rfl) h.HP, sEV_cg (hi 2001 rfl) (hi 10 rfl) (hi 312 rfl) (mi 2132 rfl) h.EV, sPD_cg (hl 605) (mi 2101 rfl) (mi 2102 rfl) h.PD, sRF_cg hr h.RF, sST_cg (hi 405 rfl) (mi 1153 rfl) (mi 1157 rfl) (mi 1158 rfl) (mi 2121 rfl) (mi 2107 rfl) h.ST, sPR_cg (mi 2103 rfl) (mi 2104 rfl) (mi 2105 rfl) h.PR, sSN_cg (mi 2102 rfl) h.SN, sOW_cg (mi 2101 rfl) (mi 2102 rfl) (mi 2140 rfl) h.OW, sFR_cg (mi 2140 rfl) (mi 2141 rfl) (mi 2142 rfl) (mi 2143 rfl) (mi 2145 rfl) (mi 2146 rfl) (mi 2150 rfl) h.FR, sHS_cg (mi 2148 rfl) (mi 2147 rfl) h.HS, sMM_cg (mi 2149 rfl) h.MM, sGS_cg (mi 2144 rfl) h.GS, sEC_cg (mi 2130 rfl) (mi 2152 rfl) h.EC, hRB, hFA, hFB, (fun k i j z => (hl k i j).trans (h.FL k i j z)), (fun k i j => (ml k i j).trans (h.FM k i j))⟩
theorem MS0.stEvent {P : XP} {d e q s : Nat} {C C' M M' : XO} (h : MS0 P d e q s C M) (hi : ∀ k, ([2001, 10] : List Nat).contains k = false → agI k C C') (hl : ∀ k, agL k C C') (mi : ∀ k, ([2130, 2132] : List Nat).contains k = false → agI k M M') (ml : ∀ k, agL k M M') (hr : ∀ f i, xR C' f i = xR C f i) (hLN : sLN P d C' M') (hEV : sEV P d C' M') (hEC : sEC P d q C' M') (hFA : sFA P C' M') (hFB : sFB P C' M') : MS0 P d e q s C' M' := ⟨h.ZP, hLN, sGA_cg (hi 310 rfl) (mi 2144 rfl) h.GA, sHP_cg (hi 2005 rfl) (hi 301 rfl) (mi 2147 rfl) h.HP, hEV, sPD_cg (hl 605) (mi 2101 rfl) (mi 2102 rfl) h.PD, sRF_cg hr h.RF, sST_cg (hi 405 rfl) (mi 1153 rfl) (mi 1157 rfl) (mi 1158 rfl) (mi 2121 rfl) (mi 2107 rfl) h.ST, sPR_cg (mi 2103 rfl) (mi 2104 rfl) (mi 2105 rfl) h.PR, sSN_cg (mi 2102 rfl) h.SN, sOW_cg (mi 2101 rfl) (mi 2102 rfl) (mi 2140 rfl) h.OW, sFR_cg (mi 2140 rfl) (mi 2141 rfl) (mi 2142 rfl) (mi 2143 rfl) (mi 2145 rfl) (mi 2146 rfl) (mi 2150 rfl) h.FR, sHS_cg (mi 2148 rfl) (mi 2147 rfl) h.HS, sMM_cg (mi 2149 rfl) h.MM, sGS_cg (mi 2144 rfl) h.GS, hEC, sRB_cg (mi 1154 rfl) (mi 2151 rfl) h.RB, hFA, hFB, (fun k i j z => (hl k i j).trans (h.FL k i j z)), (fun k i j => (ml k i j).trans (h.FM k i j))⟩
theorem MS0.stReach {P : XP} {d e q s : Nat} {C C' M M' : XO} (h : MS0 P d e q s C M) (hi : ∀ k, ([303] : List Nat).contains k = false → agI k C C') (hl : ∀ k, agL k C C') (mi : ∀ k, ([2150] : List Nat).contains k = false → agI k M M') (ml : ∀ k, agL k M M') (hr : ∀ f i, xR C' f i = xR C f i) (hLN : sLN P d C' M') (hFR : sFR P d C' M') (hFA : sFA P C' M') (hFB : sFB P C' M') : MS0 P d e q s C' M' := ⟨h.ZP, hLN, sGA_cg (hi 310 rfl) (mi 2144 rfl) h.GA, sHP_cg (hi 2005 rfl) (hi 301 rfl) (mi 2147 rfl) h.HP, sEV_cg (hi 2001 rfl) (hi 10 rfl) (hi 312 rfl) (mi 2132 rfl) h.EV, sPD_cg (hl 605) (mi 2101 rfl) (mi 2102 rfl) h.PD, sRF_cg hr h.RF, sST_cg (hi 405 rfl) (mi 1153 rfl) (mi 1157 rfl) (mi 1158 rfl) (mi 2121 rfl) (mi 2107 rfl) h.ST, sPR_cg (mi 2103 rfl) (mi 2104 rfl) (mi 2105 rfl) h.PR, sSN_cg (mi 2102 rfl) h.SN, sOW_cg (mi 2101 rfl) (mi 2102 rfl) (mi 2140 rfl) h.OW, hFR, sHS_cg (mi 2148 rfl) (mi 2147 rfl) h.HS, sMM_cg (mi 2149 rfl) h.MM, sGS_cg (mi 2144 rfl) h.GS, sEC_cg (mi 2130 rfl) (mi 2152 rfl) h.EC, sRB_cg (mi 1154 rfl) (mi 2151 rfl) h.RB, hFA, hFB, (fun k i j z => (hl k i j).trans (h.FL k i j z)), (fun k i j => (ml k i j).trans (h.FM k i j))⟩
theorem MS0.stMem {P : XP} {d e q s : Nat} {C C' M M' : XO} (h : MS0 P d e q s C M) (hi : ∀ k, ([2006] : List Nat).contains k = false → agI k C C') (hl : ∀ k, agL k C C') (mi : ∀ k, ([2149] : List Nat).contains k = false → agI k M M') (ml : ∀ k, agL k M M') (hr : ∀ f i, xR C' f i = xR C f i) (hLN : sLN P d C' M') (hMM : sMM P d C' M') (hFA : sFA P C' M') (hFB : sFB P C' M') : MS0 P d e q s C' M' := ⟨h.ZP, hLN, sGA_cg (hi 310 rfl) (mi 2144 rfl) h.GA, sHP_cg (hi 2005 rfl) (hi 301 rfl) (mi 2147 rfl) h.HP, sEV_cg (hi 2001 rfl) (hi 10 rfl) (hi 312 rfl) (mi 2132 rfl) h.EV, sPD_cg (hl 605) (mi 2101 rfl) (mi 2102 rfl) h.PD, sRF_cg hr h.RF, sST_cg (hi 405 rfl) (mi 1153 rfl) (mi 1157 rfl) (mi 1158 rfl) (mi 2121 rfl) (mi 2107 rfl) h.ST, sPR_cg (mi 2103 rfl) (mi 2104 rfl) (mi 2105 rfl) h.PR, sSN_cg (mi 2102 rfl) h.SN, sOW_cg (mi 2101 rfl) (mi 2102 rfl) (mi 2140 rfl) h.OW, sFR_cg (mi 2140 rfl) (mi 2141 rfl) (mi 2142 rfl) (mi 2143 rfl) (mi 2145 rfl) (mi 2146 rfl) (mi 2150 rfl) h.FR, sHS_cg (mi 2148 rfl) (mi 2147 rfl) h.HS, hMM, sGS_cg (mi 2144 rfl) h.GS, sEC_cg (mi 2130 rfl) (mi 2152 rfl) h.EC, sRB_cg (mi 1154 rfl) (mi 2151 rfl) h.RB, hFA, hFB, (fun k i j z => (hl k i j).trans (h.FL k i j z)), (fun k i j => (ml k i j).trans (h.FM k i j))⟩
theorem MS0.stLow {P : XP} {d e q s q' : Nat} {C C' M M' : XO} (h : MS0 P d e q s C M) (hi : ∀ k, ([] : List Nat).contains k = false → agI k C C') (hl : ∀ k, agL k C C') (mi : ∀ k, ([] : List Nat).contains k = false → agI k M M') (ml : ∀ k, agL k M M') (hr : ∀ f i, xR C' f i = xR C f i) (hSN : sSN P d q' C' M') (hEC : sEC P d q' C' M') (hRB : sRB P d q' C' M') : MS0 P d e q' s C' M' := ⟨h.ZP, sLN_cg (fun k hk => hi k (lnd _ _ hk (by decide +kernel))) (fun k hk => mi k (lnd _ _ hk (by decide +kernel))) h.LN, sGA_cg (hi 310 rfl) (mi 2144 rfl) h.GA, sHP_cg (hi 2005 rfl) (hi 301 rfl) (mi 2147 rfl) h.HP, sEV_cg (hi 2001 rfl) (hi 10 rfl) (hi 312 rfl) (mi 2132 rfl) h.EV, sPD_cg (hl 605) (mi 2101 rfl) (mi 2102 rfl) h.PD, sRF_cg hr h.RF, sST_cg (hi 405 rfl) (mi 1153 rfl) (mi 1157 rfl) (mi 1158 rfl) (mi 2121 rfl) (mi 2107 rfl) h.ST, sPR_cg (mi 2103 rfl) (mi 2104 rfl) (mi 2105 rfl) h.PR, hSN, sOW_cg (mi 2101 rfl) (mi 2102 rfl) (mi 2140 rfl) h.OW, sFR_cg (mi 2140 rfl) (mi 2141 rfl) (mi 2142 rfl) (mi 2143 rfl) (mi 2145 rfl) (mi 2146 rfl) (mi 2150 rfl) h.FR, sHS_cg (mi 2148 rfl) (mi 2147 rfl) h.HS, sMM_cg (mi 2149 rfl) h.MM, sGS_cg (mi 2144 rfl) h.GS, hEC, hRB, (fun k i j z => (hi k rfl i j).trans (h.FA k i j z)), (fun k i j z => (mi k rfl i j).trans (h.FB k i j z)), (fun k i j z => (hl k i j).trans (h.FL k i j z)), (fun k i j => (ml k i j).trans (h.FM k i j))⟩
theorem MS0.stScr {P : XP} {d e q s : Nat} {C C' M M' : XO} (h : MS0 P d e q s C M) (hi : ∀ k, ([407, 408] : List Nat).contains k = false → agI k C C') (hl : ∀ k, agL k C C') (mi : ∀ k, ([1155, 1156] : List Nat).contains k = false → agI k M M') (ml : ∀ k, agL k M M') (hr : ∀ f i, xR C' f i = xR C f i) (hFA : sFA P C' M') (hFB : sFB P C' M') : MS0 P d e q s C' M' := ⟨h.ZP, sLN_cg (fun k hk => hi k (lnd _ _ hk (by decide +kernel))) (fun k hk => mi k (lnd _ _ hk (by decide +kernel))) h.LN, sGA_cg (hi 310 rfl) (mi 2144 rfl) h.GA, sHP_cg (hi 2005 rfl) (hi 301 rfl) (mi 2147 rfl) h.HP, sEV_cg (hi 2001 rfl) (hi 10 rfl) (hi 312 rfl) (mi 2132 rfl) h.EV, sPD_cg (hl 605) (mi 2101 rfl) (mi 2102 rfl) h.PD, sRF_cg hr h.RF, sST_cg (hi 405 rfl) (mi 1153 rfl) (mi 1157 rfl) (mi 1158 rfl) (mi 2121 rfl) (mi 2107 rfl) h.ST, sPR_cg (mi 2103 rfl) (mi 2104 rfl) (mi 2105 rfl) h.PR, sSN_cg (mi 2102 rfl) h.SN, sOW_cg (mi 2101 rfl) (mi 2102 rfl) (mi 2140 rfl) h.OW, sFR_cg (mi 2140 rfl) (mi 2141 rfl) (mi 2142 rfl) (mi 2143 rfl) (mi 2145 rfl) (mi 2146 rfl) (mi 2150 rfl) h.FR, sHS_cg (mi 2148 rfl) (mi 2147 rfl) h.HS, sMM_cg (mi 2149 rfl) h.MM, sGS_cg (mi 2144 rfl) h.GS, sEC_cg (mi 2130 rfl) (mi 2152 rfl) h.EC, sRB_cg (mi 1154 rfl) (mi 2151 rfl) h.RB, hFA, hFB, (fun k i j z => (hl k i j).trans (h.FL k i j z)), (fun k i j => (ml k i j).trans (h.FM k i j))⟩
theorem MS0.stRes {P : XP} {d e q s e' s' : Nat} {C C' M M' : XO} (h : MS0 P d e q s C M) (hi : ∀ k, ([310] : List Nat).contains k = false → agI k C C') (hl : ∀ k, agL k C C') (mi : ∀ k, ([2144] : List Nat).contains k = false → agI k M M') (ml : ∀ k, agL k M M') (hr : ∀ f i, xR C' f i = xR C f i) (hGA : sGA P d e' C' M') (hGS : sGS P d s' C' M') (hFA : sFA P C' M') (hFB : sFB P C' M') : MS0 P d e' q s' C' M' := ⟨h.ZP, sLN_cg (fun k hk => hi k (lnd _ _ hk (by decide +kernel))) (fun k hk => mi k (lnd _ _ hk (by decide +kernel))) h.LN, hGA, sHP_cg (hi 2005 rfl) (hi 301 rfl) (mi 2147 rfl) h.HP, sEV_cg (hi 2001 rfl) (hi 10 rfl) (hi 312 rfl) (mi 2132 rfl) h.EV, sPD_cg (hl 605) (mi 2101 rfl) (mi 2102 rfl) h.PD, sRF_cg hr h.RF, sST_cg (hi 405 rfl) (mi 1153 rfl) (mi 1157 rfl) (mi 1158 rfl) (mi 2121 rfl) (mi 2107 rfl) h.ST, sPR_cg (mi 2103 rfl) (mi 2104 rfl) (mi 2105 rfl) h.PR, sSN_cg (mi 2102 rfl) h.SN, sOW_cg (mi 2101 rfl) (mi 2102 rfl) (mi 2140 rfl) h.OW, sFR_cg (mi 2140 rfl) (mi 2141 rfl) (mi 2142 rfl) (mi 2143 rfl) (mi 2145 rfl) (mi 2146 rfl) (mi 2150 rfl) h.FR, sHS_cg (mi 2148 rfl) (mi 2147 rfl) h.HS, sMM_cg (mi 2149 rfl) h.MM, hGS, sEC_cg (mi 2130 rfl) (mi 2152 rfl) h.EC, sRB_cg (mi 1154 rfl) (mi 2151 rfl) h.RB, hFA, hFB, (fun k i j z => (hl k i j).trans (h.FL k i j z)), (fun k i j => (ml k i j).trans (h.FM k i j))⟩
/-- other worlds at first -/
def sX (P : XP) (X Y : XO) : XP := (pb P, pk P, pc P, pT P, pN P, pL P, X, Y)
theorem MS0.base {P : XP} {d e q s : Nat} {C C' M M' X Y : XO} (h : MS0 P d e q s C M) (hi : ∀ k, ([0, 2, 3, 4, 5, 6, 8, 11, 12, 13, 14, 15, 16, 101, 407, 408, 700, 2000] : List Nat).contains k = false → agI k C C') (hl : ∀ k, ([17, 4] : List Nat).contains k = false → agL k C C') (mi : ∀ k, ([1160, 2100, 2108, 2109, 2120, 2122, 2124, 2125, 2126, 2127, 2128, 2129, 2131, 2133] : List Nat).contains k = false → agI k M M') (hr : ∀ f i, xR C' f i = xR C f i) (hFA : sFA (sX P X Y) C' M') (hFB : sFB (sX P X Y) C' M') (hFL : sFL (sX P X Y) C' M') (hFM : sFM (sX P X Y) C' M') : MS0 (sX P X Y) d e q s C' M' := ⟨h.ZP, sLN_cg (P := P) (C := C) (C' := C') (M := M) (M' := M') (fun k hk => hi k (lnd _ _ hk (by decide +kernel))) (fun k hk => mi k (lnd _ _ hk (by decide +kernel))) h.LN, sGA_cg (P := P) (C := C) (C' := C') (M := M) (M' := M') (hi 310 rfl) (mi 2144 rfl) h.GA, sHP_cg (P := P) (C := C) (C' := C') (M := M) (M' := M') (hi 2005 rfl) (hi 301 rfl) (mi 2147 rfl) h.HP, sEV_cg (P := P) (C := C) (C' := C') (M := M) (M' := M') (hi 2001 rfl) (hi 10 rfl) (hi 312 rfl) (mi 2132 rfl) h.EV, sPD_cg (P := P) (C := C) (C' := C') (M := M) (M' := M') (hl 605 rfl) (mi 2101 rfl) (mi 2102 rfl) h.PD, sRF_cg (P := P) (C := C) (C' := C') (M := M) (M' := M') hr h.RF, sST_cg (P := P) (C := C) (C' := C') (M := M) (M' := M') (hi 405 rfl) (mi 1153 rfl) (mi 1157 rfl) (mi 1158 rfl) (mi 2121 rfl) (mi 2107 rfl) h.ST, sPR_cg (P := P) (C := C) (C' := C') (M := M) (M' := M') (mi 2103 rfl) (mi 2104 rfl) (mi 2105 rfl) h.PR, sSN_cg (P := P) (C := C) (C' := C') (M := M) (M' := M') (mi 2102 rfl) h.SN, sOW_cg (P := P) (C := C) (C' := C') (M := M) (M' := M') (mi 2101 rfl) (mi 2102 rfl) (mi 2140 rfl) h.OW, sFR_cg (P := P) (C := C) (C' := C') (M := M) (M' := M') (mi 2140 rfl) (mi 2141 rfl) (mi 2142 rfl) (mi 2143 rfl) (mi 2145 rfl) (mi 2146 rfl) (mi 2150 rfl) h.FR, sHS_cg (P := P) (C := C) (C' := C') (M := M) (M' := M') (mi 2148 rfl) (mi 2147 rfl) h.HS, sMM_cg (P := P) (C := C) (C' := C') (M := M) (M' := M') (mi 2149 rfl) h.MM, sGS_cg (P := P) (C := C) (C' := C') (M := M) (M' := M') (mi 2144 rfl) h.GS, sEC_cg (P := P) (C := C) (C' := C') (M := M) (M' := M') (mi 2130 rfl) (mi 2152 rfl) h.EC, sRB_cg (P := P) (C := C) (C' := C') (M := M) (M' := M') (mi 1154 rfl) (mi 2151 rfl) h.RB, hFA, hFB, hFL, hFM⟩
theorem MS0.stPaid {P : XP} {d e q s : Nat} {C C' M M' : XO} (h : MS0 P d e q s C M) (hi : ∀ k, ([] : List Nat).contains k = false → agI k C C') (mi : ∀ k, ([2101] : List Nat).contains k = false → agI k M M') (ml : ∀ k, agL k M M') (hr : ∀ f i, xR C' f i = xR C f i) (hLN : sLN P d C' M') (hPD : sPD P d C' M') (hOW : sOW P d C' M') (hFB : sFB P C' M') (hFL : sFL P C' M') : MS0 P d e q s C' M' := ⟨h.ZP, hLN, sGA_cg (hi 310 rfl) (mi 2144 rfl) h.GA, sHP_cg (hi 2005 rfl) (hi 301 rfl) (mi 2147 rfl) h.HP, sEV_cg (hi 2001 rfl) (hi 10 rfl) (hi 312 rfl) (mi 2132 rfl) h.EV, hPD, sRF_cg hr h.RF, sST_cg (hi 405 rfl) (mi 1153 rfl) (mi 1157 rfl) (mi 1158 rfl) (mi 2121 rfl) (mi 2107 rfl) h.ST, sPR_cg (mi 2103 rfl) (mi 2104 rfl) (mi 2105 rfl) h.PR, sSN_cg (mi 2102 rfl) h.SN, hOW, sFR_cg (mi 2140 rfl) (mi 2141 rfl) (mi 2142 rfl) (mi 2143 rfl) (mi 2145 rfl) (mi 2146 rfl) (mi 2150 rfl) h.FR, sHS_cg (mi 2148 rfl) (mi 2147 rfl) h.HS, sMM_cg (mi 2149 rfl) h.MM, sGS_cg (mi 2144 rfl) h.GS, sEC_cg (mi 2130 rfl) (mi 2152 rfl) h.EC, sRB_cg (mi 1154 rfl) (mi 2151 rfl) h.RB, (fun k i j z => (hi k rfl i j).trans (h.FA k i j z)), hFB, hFL, (fun k i j => (ml k i j).trans (h.FM k i j))⟩
theorem sFA_up {P : XP} {C M M' : XO} (h : sFA P C M) {k i j : Nat} (hm : cmod (pb P) k i = true) (v : Int32) : sFA P (uI C k i j v) M' := by
  intro k2 i2 j2 z
  rw [I_uI, if_neg]
  · exact h k2 i2 j2 z
  · rintro ⟨rfl, rfl, -⟩
    rw [hm] at z
    cases z
theorem sFB_up {P : XP} {C C' M : XO} (h : sFB P C M) {k j : Nat} (hm : mmod (pk P) k j = true) (v : Int32) : sFB P C' (uI M k 0 j v) := by
  intro k2 i2 j2 z
  rw [I_uI, if_neg]
  · exact h k2 i2 j2 z
  · rintro ⟨rfl, -, rfl⟩
    rw [hm] at z
    cases z
