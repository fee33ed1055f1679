def sumN (f : Nat → Nat) : Nat → Nat
  | 0 => 0
  | n + 1 => sumN f n + f n
/-- a state that is in order: values, coins and what is burned sum up to T, nonces -/
def stOK (f : Nat → Int32) (T N q : Nat) : Prop := ∃ u : Nat → Nat, (∀ j, j < 113 → f j = nI (u j)) ∧ sumN u 16 + u 112 = T ∧ (∀ a, a < 16 → u (16 + a) + q ≤ N ∧ u (32 + a) ≤ 8 ∧ (u (32 + a) ≠ 0 → 1 ≤ u (16 + a))) ∧ ∀ j, j < 64 → u (48 + j) < 1000000
def b32 (x : Int32) (n : Nat) : Prop := (x >>> (nI n &&& 31)) &&& 1 = 1
def b64 (x : Int64) (n : Nat) : Prop := (x >>> ((nI n).toInt64 &&& 63)) &&& 1 = 1
/-- b itself and what it comes from; n: at most so many steps -/
def anc (par : Nat → Nat) : Nat → Nat → Nat → Prop
  | 0, b, x => x = b
  | n + 1, b, x => x = b ∨ (0 < b ∧ anc par n (par b) x)
def Anc (par : Nat → Nat) (b x : Nat) : Prop := anc par b b x
abbrev XD : Type := (Nat → Nat) × (Nat → Nat) × (Nat → Nat) × (Nat → Nat → Nat)
def dnb (D : XD) : Nat → Nat := D.1
def dnt (D : XD) : Nat → Nat := D.2.1
def dfn (D : XD) : Nat → Nat := D.2.2.1
def dpa (D : XD) : Nat → Nat → Nat := D.2.2.2
/-- the bits of a topic -/
def blm (p : Nat) : Int32 := ((1 : Int32) <<< ((nI p - nI p / (8 : Int32) * (8 : Int32)) &&& 31)) ||| ((1 : Int32) <<< (((8 : Int32) + ((((5 : Int32) * nI p) + (3 : Int32)) - (((5 : Int32) * nI p) + (3 : Int32)) / (8 : Int32) * (8 : Int32))) &&& 31))
/-- a transaction's rows on both sides (class's world, reference's world) -/
def gTX (C W : XO) (c k sd nc v ga mo tp : Nat) : Prop := (k < 40 ∧ sd < 6 ∧ nc ≤ 9 ∧ v ≤ 10000 ∧ 20 ≤ ga ∧ ga ≤ 600 ∧ 1 ≤ mo ∧ mo ≤ 100 ∧ tp ≤ mo) ∧ (xI C 701 (40 * c + k) 0 = nI sd ∧ xI W 2111 0 (40 * c + k) = nI sd) ∧ (xI C 702 (40 * c + k) 0 = nI nc ∧ xI W 2112 0 (40 * c + k) = nI nc) ∧ (xI C 704 (40 * c + k) 0 = nI v ∧ xI W 2114 0 (40 * c + k) = nI v) ∧ (xI C 706 (40 * c + k) 0 = nI ga ∧ xI W 2116 0 (40 * c + k) = nI ga) ∧ (xI C 707 (40 * c + k) 0 = nI mo ∧ xI W 2117 0 (40 * c + k) = nI mo) ∧ (xI C 708 (40 * c + k) 0 = nI tp ∧ xI W 2118 0 (40 * c + k) = nI tp) ∧ ((xI C 709 (40 * c + k) 0 = -1 ∧ ∃ g i : Nat, g < 24 ∧ i ≤ 9999 ∧ xI C 703 (40 * c + k) 0 = nI g ∧ xI W 2113 0 (40 * c + k) = nI g ∧ xI C 705 (40 * c + k) 0 = nI i ∧ xI W 2115 0 (40 * c + k) = nI i) ∨ ∃ lk lv ii : Nat, lk < 40 ∧ lv ≤ 10000 ∧ ii ≤ 9999 ∧ xI C 709 (40 * c + k) 0 = nI lk ∧ xI W 2113 0 (40 * c + k) = nI 24 ∧ xI W 2115 0 (40 * c + k) = nI lk ∧ xI C 710 (40 * c + k) 0 = nI lv ∧ xI W 2114 0 (40 * (1 - c) + lk) = nI lv ∧ xI W 2115 0 (40 * (1 - c) + lk) = nI ii ∧ xI C 711 (40 * c + k) 0 = nI (ii % 6))
/-- the reference's world in which a block was begun -/
def gW (C W : XO) (c b pr : Nat) : Prop := xI W 1157 0 0 = nI c ∧ xI W 1158 0 0 = nI b ∧ xI W 2122 0 b = nI pr ∧ xI W 2130 0 b = 0 ∧ xI W 2129 0 b = 0 ∧ xI W 2125 0 b = 0 ∧ xI W 2121 0 b = xI C 2 b 0 ∧ xI W 2107 0 c = xI C 104 c 0 ∧ (∀ j, j < 160 → xI C 2008 0 j = xI W 2103 0 j ∧ xI C 2009 0 j = xI W 2104 0 j) ∧ ∀ p, p < 8 → xI C 2010 0 p = xI W 2105 0 p
/-- how a block's state came to be, in worlds of the reference -/
def gH (C M : XO) (c b p nt : Nat) : Prop := ∃ (n ba pr : Nat) (G : Nat → XO) (ks : Nat → Nat), (xI C 8 b 0 = nI n ∧ n ≤ 40 ∧ 1 ≤ ba ∧ pr < 6 ∧ xI C 5 b 0 = nI ba ∧ xI C 3 b 0 = nI pr) ∧ (∀ x, x < 120 → xI (G 0) 2101 0 x = xI M 2100 0 (120 * p + x)) ∧ (∀ x, x < 120 → xI (G n) 2101 0 x = xI M 2100 0 (120 * b + x)) ∧ (0 < n → gW C (G 0) c b pr) ∧ ∀ j, j < n → ks j < nt ∧ (∃ u e : Nat, u ≤ 600 ∧ e ≤ 1 ∧ xI C 2000 b j = nI (100000 * u + 10 * ks j + e)) ∧ (∃ sd nc v ga mo tp co ec : Nat, gTX C (G 0) c (ks j) sd nc v ga mo tp ∧ ba ≤ mo ∧ v + ga * mo ≤ co ∧ co ≤ 80000 ∧ 16 * ec + ga ≤ 600 ∧ xI (G j) 2101 0 sd = nI co ∧ xI (G j) 2130 0 b = nI ec) ∧ fX11_runs (G j) (nI c) (nI (ks j)) (nI ba) = some (G (j + 1))
theorem gH.mv {C C' M M' : XO} {c b p nt nt' : Nat} (h : gH C M c b p nt) (hnt : nt ≤ nt') (h8 : xI C' 8 b 0 = xI C 8 b 0) (h5 : xI C' 5 b 0 = xI C 5 b 0) (h3 : xI C' 3 b 0 = xI C 3 b 0) (h2 : xI C' 2 b 0 = xI C 2 b 0) (hr : ∀ j, xI C' 2000 b j = xI C 2000 b j) (hs : ∀ x, x < 120 → xI M' 2100 0 (120 * p + x) = xI M 2100 0 (120 * p + x) ∧ xI M' 2100 0 (120 * b + x) = xI M 2100 0 (120 * b + x)) (hu : 0 < nt → xI C' 104 c 0 = xI C 104 c 0) (hp : 0 < nt → ∀ k j, k = 2008 ∨ k = 2009 ∨ k = 2010 → xI C' k 0 j = xI C k 0 j) (ht : ∀ k q, 701 ≤ k → k ≤ 711 → q < nt → xI C' k (40 * c + q) 0 = xI C k (40 * c + q) 0) : gH C' M' c b p nt' := by
  obtain ⟨n, ba, pr, G, ks, ⟨a1, a2, a3, a4, a5, a6⟩, s1, s2, w, st⟩ := h
  refine ⟨n, ba, pr, G, ks, ⟨h8.trans a1, a2, a3, a4, h5.trans a5, h3.trans a6⟩, fun x hx => ?_, fun x hx => ?_, fun h0 => ?_, fun j hj => ?_⟩
  · rw [(hs x hx).1]; exact s1 x hx
  · rw [(hs x hx).2]; exact s2 x hx
  · obtain ⟨w1, w2, w3, w4, w5, w6, w7, w8, w9, w10⟩ := w h0
    have hn0 : 0 < nt := by have := (st 0 h0).1; omega
    exact ⟨w1, w2, w3, w4, w5, w6, by rw [h2]; exact w7, by rw [hu hn0]; exact w8, fun j hj => ⟨by rw [hp hn0 2008 j (Or.inl rfl)]; exact (w9 j hj).1, by rw [hp hn0 2009 j (Or.inr (Or.inl rfl))]; exact (w9 j hj).2⟩, fun q hq => by rw [hp hn0 2010 q (Or.inr (Or.inr rfl))]; exact w10 q hq⟩
  · obtain ⟨k1, ⟨u, e, k2, k3, k4⟩, ⟨sd, nc, v, ga, mo, tp, co, ec, k5, k6⟩, k7⟩ := st j hj
    refine ⟨by omega, ⟨u, e, k2, k3, (hr j).trans k4⟩, ⟨sd, nc, v, ga, mo, tp, co, ec, ?_, k6⟩, k7⟩
    unfold gTX at k5 ⊢
    rw [ht 701 _ (by decide) (by decide) k1, ht 702 _ (by decide) (by decide) k1, ht 703 _ (by decide) (by decide) k1, ht 704 _ (by decide) (by decide) k1, ht 705 _ (by decide) (by decide) k1, ht 706 _ (by decide) (by decide) k1, ht 707 _ (by decide) (by decide) k1, ht 708 _ (by decide) (by decide) k1, ht 709 _ (by decide) (by decide) k1, ht 710 _ (by decide) (by decide) k1, ht 711 _ (by decide) (by decide) k1]
    exact k5
theorem txk {k : Nat} (h1 : 701 ≤ k) (h2 : k ≤ 711) : k = 701 ∨ k = 702 ∨ k = 703 ∨ k = 704 ∨ k = 705 ∨ k = 706 ∨ k = 707 ∨ k = 708 ∨ k = 709 ∨ k = 710 ∨ k = 711 := by omega
def qNT (D : XD) (C M : XO) : Prop := ∀ c, c < 2 → xI C 103 c 0 = nI (dnt D c) ∧ xI M 2108 0 c = nI (dnt D c) ∧ dnt D c ≤ 40
def qUP (D : XD) (C M : XO) : Prop := ∀ c, c < 2 → xI C 104 c 0 = xI M 2107 0 c ∧ 1 ≤ (xI C 104 c 0).toInt ∧ (xI C 104 c 0).toInt ≤ 1000
def qFN (D : XD) (C M : XO) : Prop := ∀ c, c < 2 → xI C 201 c 0 = nI (dfn D c) ∧ xI M 2110 0 c = nI (dfn D c) ∧ dfn D c < dnb D c
def qNO (D : XD) (C M : XO) : Prop := ∀ i, i < 48 → xI C 0 i 0 = nI (i % 24)
def qB2 (D : XD) (C M : XO) : Prop := ∀ i, i < 48 → xI C 2 i 0 = xI M 2121 0 i ∧ xI C 3 i 0 = xI M 2122 0 i ∧ xI C 6 i 0 = xI M 2125 0 i ∧ xI C 8 i 0 = xI M 2129 0 i ∧ xI C 10 i 0 = xI M 2130 0 i ∧ xI C 11 i 0 = xI M 2128 0 i ∧ xI C 12 i 0 = xI M 2127 0 i ∧ xI C 13 i 0 = xI M 2126 0 i ∧ xI C 14 i 0 = xI M 2133 0 i
def qRW (D : XD) (C M : XO) : Prop := ∀ i, i < 48 → ∀ j, j < 40 → xI C 2000 i j = xI M 2131 0 (40 * i + j)
def qEV (D : XD) (C M : XO) : Prop := ∀ i, i < 48 → ∀ j : Nat, j < 40 → (j : Int) < (xI C 10 i 0).toInt → xI C 2001 i j = xI M 2132 0 (40 * i + j)
def qST (D : XD) (C M : XO) : Prop := ∀ i, i < 48 → (∀ j, j < 16 → xI C 2011 i j = xI M 2100 0 (120 * i + j)) ∧ (∀ j, j < 16 → xI C 2012 i j = xI M 2100 0 (120 * i + 16 + j)) ∧ (∀ j, j < 16 → xI C 2013 i j = xI M 2100 0 (120 * i + 32 + j)) ∧ (∀ j, j < 64 → xI C 2014 i j = xI M 2100 0 (120 * i + 48 + j)) ∧ xI C 604 i 0 = xI M 2100 0 (120 * i + 112)
def qPD (D : XD) (C M : XO) : Prop := ∀ i, i < 48 → ∀ t, t < 40 → (b64 (xL C 605 i 0) t ↔ b32 (xI M 2100 0 (120 * i + 113 + t / 20)) (t % 20))
def qBS (D : XD) (C M : XO) : Prop := ∀ c, c < 2 → ∀ b, b < dnb D c → xI C 5 (24 * c + b) 0 = xI M 2124 0 (24 * c + b)
def qTO (D : XD) (C M : XO) : Prop := ∀ c, c < 2 → ∀ b, b < dnb D c → xL M 2123 0 (24 * c + b) = (xI C 4 (24 * c + b) 0).toInt64 ∧ 0 ≤ (xI C 4 (24 * c + b) 0).toInt ∧ (xI C 4 (24 * c + b) 0).toInt ≤ 9 * b
def qPA (D : XD) (C M : XO) : Prop := ∀ c, c < 2 → ∀ b, b < dnb D c → xI M 2120 0 (24 * c + b) = (if b = 0 then -1 else nI (dpa D c b)) ∧ (0 < b → dpa D c b < b)
def qHT (D : XD) (C M : XO) : Prop := ∀ c, c < 2 → xI C 2 (24 * c) 0 = 0 ∧ ∀ b, b < dnb D c → (0 ≤ (xI C 2 (24 * c + b) 0).toInt ∧ (xI C 2 (24 * c + b) 0).toInt ≤ b) ∧ (0 < b → xI C 2 (24 * c + b) 0 = xI C 2 (24 * c + dpa D c b) 0 + 1)
def qLN (D : XD) (C M : XO) : Prop := ∀ c, c < 2 → (∀ b, b < dnb D c → ∀ x, x < 24 → (b32 (xI C 16 (24 * c + b) 0) x ↔ Anc (dpa D c) b x)) ∧ ∀ b, dnb D c ≤ b → b < 24 → xI C 16 (24 * c + b) 0 = 0
def qRC (D : XD) (C M : XO) : Prop := ∀ c, c < 2 → ∀ b, b < 24 → (0 ≤ (xI C 8 (24 * c + b) 0).toInt ∧ (xI C 8 (24 * c + b) 0).toInt ≤ 40 ∧ 0 ≤ (xI C 10 (24 * c + b) 0).toInt ∧ (xI C 10 (24 * c + b) 0).toInt ≤ 40) ∧ (dnb D c ≤ b → xI C 8 (24 * c + b) 0 = 0 ∧ xI C 10 (24 * c + b) 0 = 0 ∧ xI C 6 (24 * c + b) 0 = 0 ∧ xI C 11 (24 * c + b) 0 = 0 ∧ xI C 13 (24 * c + b) 0 = 0 ∧ xI C 14 (24 * c + b) 0 = 0 ∧ xI C 15 (24 * c + b) 0 = 0 ∧ xL C 17 (24 * c + b) 0 = 0)
def qRE (D : XD) (C M : XO) : Prop := ∀ c, c < 2 → ∀ b, b < 24 → ∀ j : Nat, (j : Int) < (xI C 8 (24 * c + b) 0).toInt → ∃ u t e : Nat, xI C 2000 (24 * c + b) j = nI (100000 * u + 10 * t + e) ∧ u ≤ 600 ∧ t < dnt D c ∧ e ≤ 1
def qHD (D : XD) (C M : XO) : Prop := ∀ c, c < 2 → ∀ b, b < dnb D c → ∀ t, t < 40 → (b64 (xL C 17 (24 * c + b) 0) t ↔ ∃ x, x < 24 ∧ Anc (dpa D c) b x ∧ ∃ j : Nat, (j : Int) < (xI C 8 (24 * c + x) 0).toInt ∧ ∃ u e : Nat, u ≤ 600 ∧ e ≤ 1 ∧ xI C 2000 (24 * c + x) j = nI (100000 * u + 10 * t + e))
def qEE (D : XD) (C M : XO) : Prop := ∀ c, c < 2 → ∀ b, b < 24 → ∀ j : Nat, (j : Int) < (xI C 10 (24 * c + b) 0).toInt → ∃ p a : Nat, xI C 2001 (24 * c + b) j = nI (100 * p + a) ∧ p < 16 ∧ a < 16
def qTX (D : XD) (C M : XO) : Prop := ∀ c, c < 2 → ∀ t, t < dnt D c → (xI C 701 (40 * c + t) 0 = xI M 2111 0 (40 * c + t) ∧ xI C 702 (40 * c + t) 0 = xI M 2112 0 (40 * c + t) ∧ xI C 704 (40 * c + t) 0 = xI M 2114 0 (40 * c + t) ∧ xI C 706 (40 * c + t) 0 = xI M 2116 0 (40 * c + t) ∧ xI C 707 (40 * c + t) 0 = xI M 2117 0 (40 * c + t) ∧ xI C 708 (40 * c + t) 0 = xI M 2118 0 (40 * c + t))
def qTB (D : XD) (C M : XO) : Prop := ∀ c, c < 2 → ∀ t, t < dnt D c → ∃ s n v g m p : Nat, xI C 701 (40 * c + t) 0 = nI s ∧ s < 6 ∧ xI C 702 (40 * c + t) 0 = nI n ∧ n ≤ 9 ∧ xI C 704 (40 * c + t) 0 = nI v ∧ v ≤ 10000 ∧ xI C 706 (40 * c + t) 0 = nI g ∧ 20 ≤ g ∧ g ≤ 600 ∧ xI C 707 (40 * c + t) 0 = nI m ∧ 1 ≤ m ∧ m ≤ 100 ∧ xI C 708 (40 * c + t) 0 = nI p ∧ p ≤ m
def qTK (D : XD) (C M : XO) : Prop := ∀ c, c < 2 → ∀ t, t < dnt D c → (xI C 709 (40 * c + t) 0 = -1 ∧ ∃ g i : Nat, g < 24 ∧ i ≤ 9999 ∧ xI C 703 (40 * c + t) 0 = nI g ∧ xI M 2113 0 (40 * c + t) = nI g ∧ xI C 705 (40 * c + t) 0 = nI i ∧ xI M 2115 0 (40 * c + t) = nI i) ∨ (∃ k : Nat, k < dnt D (1 - c) ∧ xI C 709 (40 * c + t) 0 = nI k ∧ xI C 703 (40 * c + t) 0 = nI 15 ∧ xI C 705 (40 * c + t) 0 = 0 ∧ xI C 704 (40 * c + t) 0 = 0 ∧ xI M 2113 0 (40 * c + t) = nI 24 ∧ xI M 2115 0 (40 * c + t) = nI k ∧ xI C 710 (40 * c + t) 0 = xI M 2114 0 (40 * (1 - c) + k) ∧ xI M 2113 0 (40 * (1 - c) + k) = nI 15 ∧ ∃ i : Nat, xI M 2115 0 (40 * (1 - c) + k) = nI i ∧ i ≤ 9999 ∧ xI C 711 (40 * c + t) 0 = nI (i % 6))
def qLV (D : XD) (C M : XO) : Prop := ∀ c, c < 2 → (∀ t, t < dnt D c → (xI C 712 (40 * c + t) 0 = 1 ∧ xI M 2119 0 (40 * c + t) = 0) ∨ (xI C 712 (40 * c + t) 0 = 0 ∧ xI M 2119 0 (40 * c + t) = 1)) ∧ ∀ t, dnt D c ≤ t → t < 40 → xI C 712 (40 * c + t) 0 = 0 ∧ xI M 2119 0 (40 * c + t) = 0
def qTN (D : XD) (C M : XO) : Prop := ∀ k, k < 80 → xI C 700 k 0 = nI (k % 40)
def qPR (D : XD) (C M : XO) : Prop := (∀ j, j < 160 → xI C 2008 0 j = xI M 2103 0 j ∧ xI C 2009 0 j = xI M 2104 0 j) ∧ ∀ p, p < 8 → xI C 2010 0 p = xI M 2105 0 p ∧ ∃ n : Nat, n ≤ 20 ∧ xI C 2010 0 p = nI n ∧ ∀ j, j < n → ∃ o a : Nat, o < 25 ∧ xI C 2008 0 (20 * p + j) = nI o ∧ xI C 2009 0 (20 * p + j) = nI a ∧ (a : Int) ≤ ((sArr 0).getD o 0).toInt
def qBG (D : XD) (C M : XO) : Prop := (xI M 1106 0 0 = 0 ↔ dnt D 0 = 0 ∧ dnt D 1 = 0) ∧ (xI M 1106 0 0 = 0 ∨ xI M 1106 0 0 = 1)
def qDR (D : XD) (C M : XO) : Prop := ∀ i, i < 48 → (xI C 13 i 0 = 0 ∨ xI C 13 i 0 = 1) ∧ (xI C 14 i 0 = 0 ∨ xI C 14 i 0 = 1)
def qVA (D : XD) (C M : XO) : Prop := ∀ v, v < 8 → (xI C 801 v 0 = xI M 2138 0 v ∧ 0 ≤ (xI C 801 v 0).toInt ∧ (xI C 801 v 0).toInt ≤ 20) ∧ ((xI C 802 v 0 = 0 ∧ xI M 2139 0 v = 100) ∨ (xI C 802 v 0 = 1 ∧ xI M 2139 0 v = 0))
def qVO (D : XD) (C M : XO) : Prop := ∀ v, v < 8 → ∀ p : Nat, (p : Int) < (xI C 801 v 0).toInt → ∃ s t : Nat, s < dnb D (v / 4) ∧ t < dnb D (v / 4) ∧ xI C 900 (20 * v + p) 0 = nI s ∧ xI M 2135 0 (20 * v + p) = nI s ∧ xI C 901 (20 * v + p) 0 = nI t ∧ xI M 2136 0 (20 * v + p) = nI t ∧ xI C 902 (20 * v + p) 0 = xI M 2121 0 (24 * (v / 4) + s) ∧ xI C 903 (20 * v + p) 0 = xI M 2121 0 (24 * (v / 4) + t) ∧ (xI C 802 v 0 = 0 → xI M 2137 0 (20 * v + p) = 1) ∧ (xI C 802 v 0 = 1 → xI M 2137 0 (20 * v + p) = 0) ∧ Anc (dpa D (v / 4)) t s ∧ s ≠ t
def qJU (D : XD) (C M : XO) : Prop := ∀ c, c < 2 → ∀ b, b < 24 → ∀ t, t < 24 → ((b32 (xI C 15 (24 * c + b) 0) t ∧ xI M 2134 0 (576 * c + 24 * b + t) = 1) ∨ (¬ b32 (xI C 15 (24 * c + b) 0) t ∧ xI M 2134 0 (576 * c + 24 * b + t) = 0))
def qBL (D : XD) (C M : XO) : Prop := ∀ c, c < 2 → ∀ b, b < 24 → ∀ j : Nat, (j : Int) < (xI C 10 (24 * c + b) 0).toInt → ∀ p a : Nat, p < 16 → a < 16 → xI C 2001 (24 * c + b) j = nI (100 * p + a) → xI C 11 (24 * c + b) 0 &&& blm p = blm p
def qJL (D : XD) (C M : XO) : Prop := ∀ c, c < 2 → xI C 14 (24 * c) 0 = 1 ∧ ∀ b, b < 24 → ∀ t, t < 24 → b32 (xI C 15 (24 * c + b) 0) t → t < dnb D c ∧ xI C 14 (24 * c + b) 0 = 1 ∧ xI C 14 (24 * c + t) 0 = 1
def qSI (D : XD) (C M : XO) : Prop := ∀ c, c < 2 → ∀ b, b < dnb D c → stOK (fun j => xI M 2100 0 (120 * (24 * c + b) + j)) 80000 (25000 * b) 0
def qBB (D : XD) (C M : XO) : Prop := ∀ c, c < 2 → ∀ b, b < dnb D c → 1 ≤ (xI C 5 (24 * c + b) 0).toInt
def qRT (D : XD) (C M : XO) : Prop := ∀ c, c < 2 → ∀ b, b < dnb D c → ∀ (W : XO) (i : Nat), (∀ j, j < 16 → xI W 2011 i j = xI C 2011 (24 * c + b) j) → (∀ j, j < 16 → xI W 2012 i j = xI C 2012 (24 * c + b) j) → (∀ j, j < 16 → xI W 2013 i j = xI C 2013 (24 * c + b) j) → (∀ j, j < 64 → xI W 2014 i j = xI C 2014 (24 * c + b) j) → fX10_nodeOver W i (4 : Int32) (0 : Int32) = xI C 12 (24 * c + b) 0
def qF0 (D : XD) (C M : XO) : Prop := ∀ c, c < 2 → xI C 8 (24 * c) 0 = 0 ∧ (∀ j, j < 16 → xI C 2011 (24 * c) j = (if j < 6 then 10000 else if j = 15 then 20000 else 0) ∧ xI C 2012 (24 * c) j = 0 ∧ xI C 2013 (24 * c) j = 0) ∧ (∀ j, j < 64 → xI C 2014 (24 * c) j = 0) ∧ xI C 604 (24 * c) 0 = 0 ∧ ∀ t, t < 40 → ¬ b64 (xL C 605 (24 * c) 0) t
def qGH (D : XD) (C M : XO) : Prop := ∀ c, c < 2 → ∀ b, b < dnb D c → 0 < b → gH C M c (24 * c + b) (24 * c + dpa D c b) (dnt D c)
theorem qNB_cg {D : XD} {C C' M M' : XO} (c101 : agI 101 C C') (m2109 : agI 2109 M M') (h : qNB (dnb D) C M) : qNB (dnb D) C' M' := by
  unfold agI at c101; unfold agI at m2109
  unfold qNB at h ⊢
  simp only [c101, m2109]
  exact h
theorem qNT_cg {D : XD} {C C' M M' : XO} (c103 : agI 103 C C') (m2108 : agI 2108 M M') (h : qNT D C M) : qNT D C' M' := by
  unfold agI at c103; unfold agI at m2108
  unfold qNT at h ⊢
  simp only [c103, m2108]
  exact h
theorem qUP_cg {D : XD} {C C' M M' : XO} (c104 : agI 104 C C') (m2107 : agI 2107 M M') (h : qUP D C M) : qUP D C' M' := by
  unfold agI at c104; unfold agI at m2107
  unfold qUP at h ⊢
  simp only [c104, m2107]
  exact h
theorem qFN_cg {D : XD} {C C' M M' : XO} (c201 : agI 201 C C') (m2110 : agI 2110 M M') (h : qFN D C M) : qFN D C' M' := by
  unfold agI at c201; unfold agI at m2110
  unfold qFN at h ⊢
  simp only [c201, m2110]
  exact h
theorem qNO_cg {D : XD} {C C' M M' : XO} (c0 : agI 0 C C') (h : qNO D C M) : qNO D C' M' := by
  unfold agI at c0
  unfold qNO at h ⊢
  simp only [c0]
  exact h
theorem qB2_cg {D : XD} {C C' M M' : XO} (c2 : agI 2 C C') (c3 : agI 3 C C') (c6 : agI 6 C C') (c8 : agI 8 C C') (c10 : agI 10 C C') (c11 : agI 11 C C') (c12 : agI 12 C C') (c13 : agI 13 C C') (c14 : agI 14 C C') (m2121 : agI 2121 M M') (m2122 : agI 2122 M M') (m2125 : agI 2125 M M') (m2129 : agI 2129 M M') (m2130 : agI 2130 M M') (m2128 : agI 2128 M M') (m2127 : agI 2127 M M') (m2126 : agI 2126 M M') (m2133 : agI 2133 M M') (h : qB2 D C M) : qB2 D C' M' := by
  unfold agI at c2; unfold agI at c3; unfold agI at c6; unfold agI at c8; unfold agI at c10; unfold agI at c11; unfold agI at c12; unfold agI at c13; unfold agI at c14; unfold agI at m2121; unfold agI at m2122; unfold agI at m2125; unfold agI at m2129; unfold agI at m2130; unfold agI at m2128; unfold agI at m2127; unfold agI at m2126; unfold agI at m2133
  unfold qB2 at h ⊢
  simp only [c2, c3, c6, c8, c10, c11, c12, c13, c14, m2121, m2122, m2125, m2129, m2130, m2128, m2127, m2126, m2133]
  exact h
theorem qRW_cg {D : XD} {C C' M M' : XO} (c2000 : agI 2000 C C') (m2131 : agI 2131 M M') (h : qRW D C M) : qRW D C' M' := by
  unfold agI at c2000; unfold agI at m2131
  unfold qRW at h ⊢
  simp only [c2000, m2131]
  exact h
theorem qEV_cg {D : XD} {C C' M M' : XO} (c2001 : agI 2001 C C') (c10 : agI 10 C C') (m2132 : agI 2132 M M') (h : qEV D C M) : qEV D C' M' := by
  unfold agI at c2001; unfold agI at c10; unfold agI at m2132
  unfold qEV at h ⊢
  simp only [c2001, c10, m2132]
  exact h
theorem qST_cg {D : XD} {C C' M M' : XO} (c2011 : agI 2011 C C') (c2012 : agI 2012 C C') (c2013 : agI 2013 C C') (c2014 : agI 2014 C C') (c604 : agI 604 C C') (m2100 : agI 2100 M M') (h : qST D C M) : qST D C' M' := by
  unfold agI at c2011; unfold agI at c2012; unfold agI at c2013; unfold agI at c2014; unfold agI at c604; unfold agI at m2100
  unfold qST at h ⊢
  simp only [c2011, c2012, c2013, c2014, c604, m2100]
  exact h
theorem qPD_cg {D : XD} {C C' M M' : XO} (l605 : agL 605 C C') (m2100 : agI 2100 M M') (h : qPD D C M) : qPD D C' M' := by
  unfold agL at l605; unfold agI at m2100
  unfold qPD at h ⊢
  simp only [l605, m2100]
  exact h
theorem qBS_cg {D : XD} {C C' M M' : XO} (c5 : agI 5 C C') (m2124 : agI 2124 M M') (h : qBS D C M) : qBS D C' M' := by
  unfold agI at c5; unfold agI at m2124
  unfold qBS at h ⊢
  simp only [c5, m2124]
  exact h
theorem qTO_cg {D : XD} {C C' M M' : XO} (c4 : agI 4 C C') (n2123 : agL 2123 M M') (h : qTO D C M) : qTO D C' M' := by
  unfold agI at c4; unfold agL at n2123
  unfold qTO at h ⊢
  simp only [c4, n2123]
  exact h
theorem qPA_cg {D : XD} {C C' M M' : XO} (m2120 : agI 2120 M M') (h : qPA D C M) : qPA D C' M' := by
  unfold agI at m2120
  unfold qPA at h ⊢
  simp only [m2120]
  exact h
theorem qHT_cg {D : XD} {C C' M M' : XO} (c2 : agI 2 C C') (h : qHT D C M) : qHT D C' M' := by
  unfold agI at c2
  unfold qHT at h ⊢
  simp only [c2]
  exact h
theorem qLN_cg {D : XD} {C C' M M' : XO} (c16 : agI 16 C C') (h : qLN D C M) : qLN D C' M' := by
  unfold agI at c16
  unfold qLN at h ⊢
  simp only [c16]
  exact h
theorem qRC_cg {D : XD} {C C' M M' : XO} (c8 : agI 8 C C') (c10 : agI 10 C C') (c6 : agI 6 C C') (c11 : agI 11 C C') (c13 : agI 13 C C') (c14 : agI 14 C C') (c15 : agI 15 C C') (l17 : agL 17 C C') (h : qRC D C M) : qRC D C' M' := by
  unfold agI at c8; unfold agI at c10; unfold agI at c6; unfold agI at c11; unfold agI at c13; unfold agI at c14; unfold agI at c15; unfold agL at l17
  unfold qRC at h ⊢
  simp only [c8, c10, c6, c11, c13, c14, c15, l17]
  exact h
theorem qRE_cg {D : XD} {C C' M M' : XO} (c8 : agI 8 C C') (c2000 : agI 2000 C C') (h : qRE D C M) : qRE D C' M' := by
  unfold agI at c8; unfold agI at c2000
  unfold qRE at h ⊢
  simp only [c8, c2000]
  exact h
theorem qHD_cg {D : XD} {C C' M M' : XO} (c8 : agI 8 C C') (c2000 : agI 2000 C C') (l17 : agL 17 C C') (h : qHD D C M) : qHD D C' M' := by
  unfold agI at c8; unfold agI at c2000; unfold agL at l17
  unfold qHD at h ⊢
  simp only [c8, c2000, l17]
  exact h
theorem qEE_cg {D : XD} {C C' M M' : XO} (c10 : agI 10 C C') (c2001 : agI 2001 C C') (h : qEE D C M) : qEE D C' M' := by
  unfold agI at c10; unfold agI at c2001
  unfold qEE at h ⊢
  simp only [c10, c2001]
  exact h
theorem qTX_cg {D : XD} {C C' M M' : XO} (c701 : agI 701 C C') (c702 : agI 702 C C') (c704 : agI 704 C C') (c706 : agI 706 C C') (c707 : agI 707 C C') (c708 : agI 708 C C') (m2111 : agI 2111 M M') (m2112 : agI 2112 M M') (m2114 : agI 2114 M M') (m2116 : agI 2116 M M') (m2117 : agI 2117 M M') (m2118 : agI 2118 M M') (h : qTX D C M) : qTX D C' M' := by
  unfold agI at c701; unfold agI at c702; unfold agI at c704; unfold agI at c706; unfold agI at c707; unfold agI at c708; unfold agI at m2111; unfold agI at m2112; unfold agI at m2114; unfold agI at m2116; unfold agI at m2117; unfold agI at m2118
  unfold qTX at h ⊢
  simp only [c701, c702, c704, c706, c707, c708, m2111, m2112, m2114, m2116, m2117, m2118]
  exact h
theorem qTB_cg {D : XD} {C C' M M' : XO} (c701 : agI 701 C C') (c702 : agI 702 C C') (c704 : agI 704 C C') (c706 : agI 706 C C') (c707 : agI 707 C C') (c708 : agI 708 C C') (h : qTB D C M) : qTB D C' M' := by
  unfold agI at c701; unfold agI at c702; unfold agI at c704; unfold agI at c706; unfold agI at c707; unfold agI at c708
  unfold qTB at h ⊢
  simp only [c701, c702, c704, c706, c707, c708]
  exact h
theorem qTK_cg {D : XD} {C C' M M' : XO} (c709 : agI 709 C C') (c703 : agI 703 C C') (c705 : agI 705 C C') (c704 : agI 704 C C') (c710 : agI 710 C C') (c711 : agI 711 C C') (m2113 : agI 2113 M M') (m2115 : agI 2115 M M') (m2114 : agI 2114 M M') (h : qTK D C M) : qTK D C' M' := by
  unfold agI at c709; unfold agI at c703; unfold agI at c705; unfold agI at c704; unfold agI at c710; unfold agI at c711; unfold agI at m2113; unfold agI at m2115; unfold agI at m2114
  unfold qTK at h ⊢
  simp only [c709, c703, c705, c704, c710, c711, m2113, m2115, m2114]
  exact h
theorem qLV_cg {D : XD} {C C' M M' : XO} (c712 : agI 712 C C') (m2119 : agI 2119 M M') (h : qLV D C M) : qLV D C' M' := by
  unfold agI at c712; unfold agI at m2119
  unfold qLV at h ⊢
  simp only [c712, m2119]
  exact h
theorem qTN_cg {D : XD} {C C' M M' : XO} (c700 : agI 700 C C') (h : qTN D C M) : qTN D C' M' := by
  unfold agI at c700
  unfold qTN at h ⊢
  simp only [c700]
  exact h
theorem qPR_cg {D : XD} {C C' M M' : XO} (c2008 : agI 2008 C C') (c2009 : agI 2009 C C') (c2010 : agI 2010 C C') (m2103 : agI 2103 M M') (m2104 : agI 2104 M M') (m2105 : agI 2105 M M') (h : qPR D C M) : qPR D C' M' := by
  unfold agI at c2008; unfold agI at c2009; unfold agI at c2010; unfold agI at m2103; unfold agI at m2104; unfold agI at m2105
  unfold qPR at h ⊢
  simp only [c2008, c2009, c2010, m2103, m2104, m2105]
  exact h
theorem qBG_cg {D : XD} {C C' M M' : XO} (m1106 : agI 1106 M M') (h : qBG D C M) : qBG D C' M' := by
  unfold agI at m1106
  unfold qBG at h ⊢
  simp only [m1106]
  exact h
theorem qDR_cg {D : XD} {C C' M M' : XO} (c13 : agI 13 C C') (c14 : agI 14 C C') (h : qDR D C M) : qDR D C' M' := by
  unfold agI at c13; unfold agI at c14
  unfold qDR at h ⊢
  simp only [c13, c14]
  exact h
theorem qVA_cg {D : XD} {C C' M M' : XO} (c801 : agI 801 C C') (c802 : agI 802 C C') (m2138 : agI 2138 M M') (m2139 : agI 2139 M M') (h : qVA D C M) : qVA D C' M' := by
  unfold agI at c801; unfold agI at c802; unfold agI at m2138; unfold agI at m2139
  unfold qVA at h ⊢
  simp only [c801, c802, m2138, m2139]
  exact h
theorem qVO_cg {D : XD} {C C' M M' : XO} (c801 : agI 801 C C') (c802 : agI 802 C C') (c900 : agI 900 C C') (c901 : agI 901 C C') (c902 : agI 902 C C') (c903 : agI 903 C C') (m2135 : agI 2135 M M') (m2136 : agI 2136 M M') (m2121 : agI 2121 M M') (m2137 : agI 2137 M M') (h : qVO D C M) : qVO D C' M' := by
  unfold agI at c801; unfold agI at c802; unfold agI at c900; unfold agI at c901; unfold agI at c902; unfold agI at c903; unfold agI at m2135; unfold agI at m2136; unfold agI at m2121; unfold agI at m2137
  unfold qVO at h ⊢
  simp only [c801, c802, c900, c901, c902, c903, m2135, m2136, m2121, m2137]
  exact h
theorem qJU_cg {D : XD} {C C' M M' : XO} (c15 : agI 15 C C') (m2134 : agI 2134 M M') (h : qJU D C M) : qJU D C' M' := by
  unfold agI at c15; unfold agI at m2134
  unfold qJU at h ⊢
  simp only [c15, m2134]
  exact h
theorem qBL_cg {D : XD} {C C' M M' : XO} (c10 : agI 10 C C') (c2001 : agI 2001 C C') (c11 : agI 11 C C') (h : qBL D C M) : qBL D C' M' := by
  unfold agI at c10; unfold agI at c2001; unfold agI at c11
  unfold qBL at h ⊢
  simp only [c10, c2001, c11]
  exact h
theorem qJL_cg {D : XD} {C C' M M' : XO} (c14 : agI 14 C C') (c15 : agI 15 C C') (h : qJL D C M) : qJL D C' M' := by
  unfold agI at c14; unfold agI at c15
  unfold qJL at h ⊢
  simp only [c14, c15]
  exact h
theorem qSI_cg {D : XD} {C C' M M' : XO} (m2100 : agI 2100 M M') (h : qSI D C M) : qSI D C' M' := by
  unfold agI at m2100
  unfold qSI at h ⊢
  simp only [m2100]
  exact h
theorem qBB_cg {D : XD} {C C' M M' : XO} (c5 : agI 5 C C') (h : qBB D C M) : qBB D C' M' := by
  unfold agI at c5
  unfold qBB at h ⊢
  simp only [c5]
  exact h
theorem qRT_cg {D : XD} {C C' M M' : XO} (c2011 : agI 2011 C C') (c2012 : agI 2012 C C') (c2013 : agI 2013 C C') (c2014 : agI 2014 C C') (c12 : agI 12 C C') (h : qRT D C M) : qRT D C' M' := by
  unfold agI at c2011; unfold agI at c2012; unfold agI at c2013; unfold agI at c2014; unfold agI at c12
  unfold qRT at h ⊢
  simp only [c2011, c2012, c2013, c2014, c12]
  exact h
theorem qF0_cg {D : XD} {C C' M M' : XO} (c8 : agI 8 C C') (c2011 : agI 2011 C C') (c2012 : agI 2012 C C') (c2013 : agI 2013 C C') (c2014 : agI 2014 C C') (c604 : agI 604 C C') (l605 : agL 605 C C') (h : qF0 D C M) : qF0 D C' M' := by
  unfold agI at c8; unfold agI at c2011; unfold agI at c2012; unfold agI at c2013; unfold agI at c2014; unfold agI at c604; unfold agL at l605
  unfold qF0 at h ⊢
  simp only [c8, c2011, c2012, c2013, c2014, c604, l605]
  exact h
theorem qGH_cg {D : XD} {C C' M M' : XO} (c2 : agI 2 C C') (c3 : agI 3 C C') (c5 : agI 5 C C') (c8 : agI 8 C C') (c104 : agI 104 C C') (c2000 : agI 2000 C C') (c701 : agI 701 C C') (c702 : agI 702 C C') (c703 : agI 703 C C') (c704 : agI 704 C C') (c705 : agI 705 C C') (c706 : agI 706 C C') (c707 : agI 707 C C') (c708 : agI 708 C C') (c709 : agI 709 C C') (c710 : agI 710 C C') (c711 : agI 711 C C') (c2008 : agI 2008 C C') (c2009 : agI 2009 C C') (c2010 : agI 2010 C C') (m2100 : agI 2100 M M') (h : qGH D C M) : qGH D C' M' := by
  intro c hc b hb h0
  refine (h c hc b hb h0).mv (Nat.le_refl _) (c8 _ _) (c5 _ _) (c3 _ _) (c2 _ _) (fun j => c2000 _ _) (fun x _ => ⟨m2100 _ _, m2100 _ _⟩) (fun _ => c104 _ _) (fun _ k j hk => ?_) (fun k q h1 h2 _ => ?_)
  · rcases hk with rfl | rfl | rfl
    · exact c2008 _ _
    · exact c2009 _ _
    · exact c2010 _ _
  · rcases txk h1 h2 with rfl | rfl | rfl | rfl | rfl | rfl | rfl | rfl | rfl | rfl | rfl
    · exact c701 _ _
    · exact c702 _ _
    · exact c703 _ _
    · exact c704 _ _
    · exact c705 _ _
    · exact c706 _ _
    · exact c707 _ _
    · exact c708 _ _
    · exact c709 _ _
    · exact c710 _ _
    · exact c711 _ _
def RGD (D : XD) (C M : XO) : Prop := qNB (dnb D) C M ∧ qNT D C M ∧ qUP D C M ∧ qFN D C M ∧ qNO D C M ∧ qB2 D C M ∧ qRW D C M ∧ qEV D C M ∧ qST D C M ∧ qPD D C M ∧ qBS D C M ∧ qTO D C M ∧ qPA D C M ∧ qHT D C M ∧ qLN D C M ∧ qRC D C M ∧ qRE D C M ∧ qHD D C M ∧ qEE D C M ∧ qTX D C M ∧ qTB D C M ∧ qTK D C M ∧ qLV D C M ∧ qTN D C M ∧ qPR D C M ∧ qBG D C M ∧ qDR D C M ∧ qVA D C M ∧ qVO D C M ∧ qJU D C M ∧ qBL D C M ∧ qJL D C M ∧ qSI D C M ∧ qBB D C M ∧ qRT D C M ∧ qF0 D C M ∧ qGH D C M
theorem RGD.NB {D : XD} {C M : XO} (h : RGD D C M) : qNB (dnb D) C M := h.1
theorem RGD.NT {D : XD} {C M : XO} (h : RGD D C M) : qNT D C M := h.2.1
theorem RGD.UP {D : XD} {C M : XO} (h : RGD D C M) : qUP D C M := h.2.2.1
theorem RGD.FN {D : XD} {C M : XO} (h : RGD D C M) : qFN D C M := h.2.2.2.1
theorem RGD.NO {D : XD} {C M : XO} (h : RGD D C M) : qNO D C M := h.2.2.2.2.1
theorem RGD.B2 {D : XD} {C M : XO} (h : RGD D C M) : qB2 D C M := h.2.2.2.2.2.1
theorem RGD.RW {D : XD} {C M : XO} (h : RGD D C M) : qRW D C M := h.2.2.2.2.2.2.1
theorem RGD.EV {D : XD} {C M : XO} (h : RGD D C M) : qEV D C M := h.2.2.2.2.2.2.2.1
theorem RGD.ST {D : XD} {C M : XO} (h : RGD D C M) : qST D C M := h.2.2.2.2.2.2.2.2.1
theorem RGD.PD {D : XD} {C M : XO} (h : RGD D C M) : qPD D C M := h.2.2.2.2.2.2.2.2.2.1
theorem RGD.BS {D : XD} {C M : XO} (h : RGD D C M) : qBS D C M := h.2.2.2.2.2.2.2.2.2.2.1
theorem RGD.TO {D : XD} {C M : XO} (h : RGD D C M) : qTO D C M := h.2.2.2.2.2.2.2.2.2.2.2.1
theorem RGD.PA {D : XD} {C M : XO} (h : RGD D C M) : qPA D C M := h.2.2.2.2.2.2.2.2.2.2.2.2.1
theorem RGD.HT {D : XD} {C M : XO} (h : RGD D C M) : qHT D C M := h.2.2.2.2.2.2.2.2.2.2.2.2.2.1
theorem RGD.LN {D : XD} {C M : XO} (h : RGD D C M) : qLN D C M := h.2.2.2.2.2.2.2.2.2.2.2.2.2.2.1
theorem RGD.RC {D : XD} {C M : XO} (h : RGD D C M) : qRC D C M := h.2.2.2.2.2.2.2.2.2.2.2.2.2.2.2.1
theorem RGD.RE {D : XD} {C M : XO} (h : RGD D C M) : qRE D C M := h.2.2.2.2.2.2.2.2.2.2.2.2.2.2.2.2.1
theorem RGD.HD {D : XD} {C M : XO} (h : RGD D C M) : qHD D C M := h.2.2.2.2.2.2.2.2.2.2.2.2.2.2.2.2.2.1
theorem RGD.EE {D : XD} {C M : XO} (h : RGD D C M) : qEE D C M := h.2.2.2.2.2.2.2.2.2.2.2.2.2.2.2.2.2.2.1
theorem RGD.TX {D : XD} {C M : XO} (h : RGD D C M) : qTX D C M := h.2.2.2.2.2.2.2.2.2.2.2.2.2.2.2.2.2.2.2.1
theorem RGD.TB {D : XD} {C M : XO} (h : RGD D C M) : qTB D C M := h.2.2.2.2.2.2.2.2.2.2.2.2.2.2.2.2.2.2.2.2.1
theorem RGD.TK {D : XD} {C M : XO} (h : RGD D C M) : qTK D C M := h.2.2.2.2.2.2.2.2.2.2.2.2.2.2.2.2.2.2.2.2.2.1
theorem RGD.LV {D : XD} {C M : XO} (h : RGD D C M) : qLV D C M := h.2.2.2.2.2.2.2.2.2.2.2.2.2.2.2.2.2.2.2.2.2.2.1
theorem RGD.TN {D : XD} {C M : XO} (h : RGD D C M) : qTN D C M := h.2.2.2.2.2.2.2.2.2.2.2.2.2.2.2.2.2.2.2.2.2.2.2.1
theorem RGD.PR {D : XD} {C M : XO} (h : RGD D C M) : qPR D C M := h.2.2.2.2.2.2.2.2.2.2.2.2.2.2.2.2.2.2.2.2.2.2.2.2.1
theorem RGD.BG {D : XD} {C M : XO} (h : RGD D C M) : qBG D C M := h.2.2.2.2.2.2.2.2.2.2.2.2.2.2.2.2.2.2.2.2.2.2.2.2.2.1
theorem RGD.DR {D : XD} {C M : XO} (h : RGD D C M) : qDR D C M := h.2.2.2.2.2.2.2.2.2.2.2.2.2.2.2.2.2.2.2.2.2.2.2.2.2.2.1
theorem RGD.VA {D : XD} {C M : XO} (h : RGD D C M) : qVA D C M := h.2.2.2.2.2.2.2.2.2.2.2.2.2.2.2.2.2.2.2.2.2.2.2.2.2.2.2.1
theorem RGD.VO {D : XD} {C M : XO} (h : RGD D C M) : qVO D C M := h.2.2.2.2.2.2.2.2.2.2.2.2.2.2.2.2.2.2.2.2.2.2.2.2.2.2.2.2.1
theorem RGD.JU {D : XD} {C M : XO} (h : RGD D C M) : qJU D C M := h.2.2.2.2.2.2.2.2.2.2.2.2.2.2.2.2.2.2.2.2.2.2.2.2.2.2.2.2.2.1
theorem RGD.BL {D : XD} {C M : XO} (h : RGD D C M) : qBL D C M := h.2.2.2.2.2.2.2.2.2.2.2.2.2.2.2.2.2.2.2.2.2.2.2.2.2.2.2.2.2.2.1
theorem RGD.JL {D : XD} {C M : XO} (h : RGD D C M) : qJL D C M := h.2.2.2.2.2.2.2.2.2.2.2.2.2.2.2.2.2.2.2.2.2.2.2.2.2.2.2.2.2.2.2.1
theorem RGD.SI {D : XD} {C M : XO} (h : RGD D C M) : qSI D C M := h.2.2.2.2.2.2.2.2.2.2.2.2.2.2.2.2.2.2.2.2.2.2.2.2.2.2.2.2.2.2.2.2.1
theorem RGD.BB {D : XD} {C M : XO} (h : RGD D C M) : qBB D C M := h.2.2.2.2.2.2.2.2.2.2.2.2.2.2.2.2.2.2.2.2.2.2.2.2.2.2.2.2.2.2.2.2.2.1
theorem RGD.RT {D : XD} {C M : XO} (h : RGD D C M) : qRT D C M := h.2.2.2.2.2.2.2.2.2.2.2.2.2.2.2.2.2.2.2.2.2.2.2.2.2.2.2.2.2.2.2.2.2.2.1
theorem RGD.F0 {D : XD} {C M : XO} (h : RGD D C M) : qF0 D C M := h.2.2.2.2.2.2.2.2.2.2.2.2.2.2.2.2.2.2.2.2.2.2.2.2.2.2.2.2.2.2.2.2.2.2.2.1
theorem RGD.GH {D : XD} {C M : XO} (h : RGD D C M) : qGH D C M := h.2.2.2.2.2.2.2.2.2.2.2.2.2.2.2.2.2.2.2.2.2.2.2.2.2.2.2.2.2.2.2.2.2.2.2.2
def RG (Ω : XO) : Prop := ∃ D : XD, RGD D Ω Ω
/-- keys that hold nothing between calls -/
def scr (k : Nat) : Bool := [1160, 2159, 2101, 2102, 1153, 1154, 1155, 1156, 1157, 1158, 2140, 2141, 2142, 2143, 2144, 2145, 2146, 2147, 2148, 2149, 2150, 2151, 2152, 301, 302, 303, 304, 305, 306, 307, 308, 309, 310, 311, 312, 313, 405, 406, 407, 408, 2005, 2006].contains k
theorem RGD.keep {D : XD} {Ω Ω' : XO} (h : RGD D Ω Ω) (hi : ∀ k, scr k = false → agI k Ω Ω') (hl : ∀ k, k ≠ 2017 → agL k Ω Ω') : RGD D Ω' Ω' := ⟨qNB_cg (hi 101 rfl) (hi 2109 rfl) h.NB, qNT_cg (hi 103 rfl) (hi 2108 rfl) h.NT, qUP_cg (hi 104 rfl) (hi 2107 rfl) h.UP, qFN_cg (hi 201 rfl) (hi 2110 rfl) h.FN, qNO_cg (hi 0 rfl) h.NO, qB2_cg (hi 2 rfl) (hi 3 rfl) (hi 6 rfl) (hi 8 rfl) (hi 10 rfl) (hi 11 rfl) (hi 12 rfl) (hi 13 rfl) (hi 14 rfl) (hi 2121 rfl) (hi 2122 rfl) (hi 2125 rfl) (hi 2129 rfl) (hi 2130 rfl) (hi 2128 rfl) (hi 2127 rfl) (hi 2126 rfl) (hi 2133 rfl) h.B2, qRW_cg (hi 2000 rfl) (hi 2131 rfl) h.RW, qEV_cg (hi 2001 rfl) (hi 10 rfl) (hi 2132 rfl) h.EV, qST_cg (hi 2011 rfl) (hi 2012 rfl) (hi 2013 rfl) (hi 2014 rfl) (hi 604 rfl) (hi 2100 rfl) h.ST, qPD_cg (hl 605 (by decide)) (hi 2100 rfl) h.PD, qBS_cg (hi 5 rfl) (hi 2124 rfl) h.BS, qTO_cg (hi 4 rfl) (hl 2123 (by decide)) h.TO, qPA_cg (hi 2120 rfl) h.PA, qHT_cg (hi 2 rfl) h.HT, qLN_cg (hi 16 rfl) h.LN, qRC_cg (hi 8 rfl) (hi 10 rfl) (hi 6 rfl) (hi 11 rfl) (hi 13 rfl) (hi 14 rfl) (hi 15 rfl) (hl 17 (by decide)) h.RC, qRE_cg (hi 8 rfl) (hi 2000 rfl) h.RE, qHD_cg (hi 8 rfl) (hi 2000 rfl) (hl 17 (by decide)) h.HD, qEE_cg (hi 10 rfl) (hi 2001 rfl) h.EE, qTX_cg (hi 701 rfl) (hi 702 rfl) (hi 704 rfl) (hi 706 rfl) (hi 707 rfl) (hi 708 rfl) (hi 2111 rfl) (hi 2112 rfl) (hi 2114 rfl) (hi 2116 rfl) (hi 2117 rfl) (hi 2118 rfl) h.TX, qTB_cg (hi 701 rfl) (hi 702 rfl) (hi 704 rfl) (hi 706 rfl) (hi 707 rfl) (hi 708 rfl) h.TB, qTK_cg (hi 709 rfl) (hi 703 rfl) (hi 705 rfl) (hi 704 rfl) (hi 710 rfl) (hi 711 rfl) (hi 2113 rfl) (hi 2115 rfl) (hi 2114 rfl) h.TK, qLV_cg (hi 712 rfl) (hi 2119 rfl) h.LV, qTN_cg (hi 700 rfl) h.TN, qPR_cg (hi 2008 rfl) (hi 2009 rfl) (hi 2010 rfl) (hi 2103 rfl) (hi 2104 rfl) (hi 2105 rfl) h.PR, qBG_cg (hi 1106 rfl) h.BG, qDR_cg (hi 13 rfl) (hi 14 rfl) h.DR, qVA_cg (hi 801 rfl) (hi 802 rfl) (hi 2138 rfl) (hi 2139 rfl) h.VA, qVO_cg (hi 801 rfl) (hi 802 rfl) (hi 900 rfl) (hi 901 rfl) (hi 902 rfl) (hi 903 rfl) (hi 2135 rfl) (hi 2136 rfl) (hi 2121 rfl) (hi 2137 rfl) h.VO, qJU_cg (hi 15 rfl) (hi 2134 rfl) h.JU, qBL_cg (hi 10 rfl) (hi 2001 rfl) (hi 11 rfl) h.BL, qJL_cg (hi 14 rfl) (hi 15 rfl) h.JL, qSI_cg (hi 2100 rfl) h.SI, qBB_cg (hi 5 rfl) h.BB, qRT_cg (hi 2011 rfl) (hi 2012 rfl) (hi 2013 rfl) (hi 2014 rfl) (hi 12 rfl) h.RT, qF0_cg (hi 8 rfl) (hi 2011 rfl) (hi 2012 rfl) (hi 2013 rfl) (hi 2014 rfl) (hi 604 rfl) (hl 605 (by decide)) h.F0, qGH_cg (hi 2 rfl) (hi 3 rfl) (hi 5 rfl) (hi 8 rfl) (hi 104 rfl) (hi 2000 rfl) (hi 701 rfl) (hi 702 rfl) (hi 703 rfl) (hi 704 rfl) (hi 705 rfl) (hi 706 rfl) (hi 707 rfl) (hi 708 rfl) (hi 709 rfl) (hi 710 rfl) (hi 711 rfl) (hi 2008 rfl) (hi 2009 rfl) (hi 2010 rfl) (hi 2100 rfl) h.GH⟩
theorem RGD.keep2 {D : XD} {C C' M M' : XO} (h : RGD D C M) (ci : ∀ k, scr k = false → agI k C C') (cl : ∀ k, k ≠ 2017 → agL k C C') (mi : ∀ k, scr k = false → agI k M M') (ml : ∀ k, k ≠ 2017 → agL k M M') : RGD D C' M' := ⟨qNB_cg (ci 101 rfl) (mi 2109 rfl) h.NB, qNT_cg (ci 103 rfl) (mi 2108 rfl) h.NT, qUP_cg (ci 104 rfl) (mi 2107 rfl) h.UP, qFN_cg (ci 201 rfl) (mi 2110 rfl) h.FN, qNO_cg (ci 0 rfl) h.NO, qB2_cg (ci 2 rfl) (ci 3 rfl) (ci 6 rfl) (ci 8 rfl) (ci 10 rfl) (ci 11 rfl) (ci 12 rfl) (ci 13 rfl) (ci 14 rfl) (mi 2121 rfl) (mi 2122 rfl) (mi 2125 rfl) (mi 2129 rfl) (mi 2130 rfl) (mi 2128 rfl) (mi 2127 rfl) (mi 2126 rfl) (mi 2133 rfl) h.B2, qRW_cg (ci 2000 rfl) (mi 2131 rfl) h.RW, qEV_cg (ci 2001 rfl) (ci 10 rfl) (mi 2132 rfl) h.EV, qST_cg (ci 2011 rfl) (ci 2012 rfl) (ci 2013 rfl) (ci 2014 rfl) (ci 604 rfl) (mi 2100 rfl) h.ST, qPD_cg (cl 605 (by decide)) (mi 2100 rfl) h.PD, qBS_cg (ci 5 rfl) (mi 2124 rfl) h.BS, qTO_cg (ci 4 rfl) (ml 2123 (by decide)) h.TO, qPA_cg (mi 2120 rfl) h.PA, qHT_cg (ci 2 rfl) h.HT, qLN_cg (ci 16 rfl) h.LN, qRC_cg (ci 8 rfl) (ci 10 rfl) (ci 6 rfl) (ci 11 rfl) (ci 13 rfl) (ci 14 rfl) (ci 15 rfl) (cl 17 (by decide)) h.RC, qRE_cg (ci 8 rfl) (ci 2000 rfl) h.RE, qHD_cg (ci 8 rfl) (ci 2000 rfl) (cl 17 (by decide)) h.HD, qEE_cg (ci 10 rfl) (ci 2001 rfl) h.EE, qTX_cg (ci 701 rfl) (ci 702 rfl) (ci 704 rfl) (ci 706 rfl) (ci 707 rfl) (ci 708 rfl) (mi 2111 rfl) (mi 2112 rfl) (mi 2114 rfl) (mi 2116 rfl) (mi 2117 rfl) (mi 2118 rfl) h.TX, qTB_cg (ci 701 rfl) (ci 702 rfl) (ci 704 rfl) (ci 706 rfl) (ci 707 rfl) (ci 708 rfl) h.TB, qTK_cg (ci 709 rfl) (ci 703 rfl) (ci 705 rfl) (ci 704 rfl) (ci 710 rfl) (ci 711 rfl) (mi 2113 rfl) (mi 2115 rfl) (mi 2114 rfl) h.TK, qLV_cg (ci 712 rfl) (mi 2119 rfl) h.LV, qTN_cg (ci 700 rfl) h.TN, qPR_cg (ci 2008 rfl) (ci 2009 rfl) (ci 2010 rfl) (mi 2103 rfl) (mi 2104 rfl) (mi 2105 rfl) h.PR, qBG_cg (mi 1106 rfl) h.BG, qDR_cg (ci 13 rfl) (ci 14 rfl) h.DR, qVA_cg (ci 801 rfl) (ci 802 rfl) (mi 2138 rfl) (mi 2139 rfl) h.VA, qVO_cg (ci 801 rfl) (ci 802 rfl) (ci 900 rfl) (ci 901 rfl) (ci 902 rfl) (ci 903 rfl) (mi 2135 rfl) (mi 2136 rfl) (mi 2121 rfl) (mi 2137 rfl) h.VO, qJU_cg (ci 15 rfl) (mi 2134 rfl) h.JU, qBL_cg (ci 10 rfl) (ci 2001 rfl) (ci 11 rfl) h.BL, qJL_cg (ci 14 rfl) (ci 15 rfl) h.JL, qSI_cg (mi 2100 rfl) h.SI, qBB_cg (ci 5 rfl) h.BB, qRT_cg (ci 2011 rfl) (ci 2012 rfl) (ci 2013 rfl) (ci 2014 rfl) (ci 12 rfl) h.RT, qF0_cg (ci 8 rfl) (ci 2011 rfl) (ci 2012 rfl) (ci 2013 rfl) (ci 2014 rfl) (ci 604 rfl) (cl 605 (by decide)) h.F0, qGH_cg (ci 2 rfl) (ci 3 rfl) (ci 5 rfl) (ci 8 rfl) (ci 104 rfl) (ci 2000 rfl) (ci 701 rfl) (ci 702 rfl) (ci 703 rfl) (ci 704 rfl) (ci 705 rfl) (ci 706 rfl) (ci 707 rfl) (ci 708 rfl) (ci 709 rfl) (ci 710 rfl) (ci 711 rfl) (ci 2008 rfl) (ci 2009 rfl) (ci 2010 rfl) (mi 2100 rfl) h.GH⟩
theorem RGD.out {D : XD} {C M : XO} (h : RGD D C M) (v : Int64) : RGD D C (uL M 2017 0 0 v) := ⟨qNB_cg (C := C) (C' := C) (M := M) (M' := uL M 2017 0 0 v) (fun _ _ => rfl) (fun _ _ => rfl) h.NB, qNT_cg (C := C) (C' := C) (M := M) (M' := uL M 2017 0 0 v) (fun _ _ => rfl) (fun _ _ => rfl) h.NT, qUP_cg (C := C) (C' := C) (M := M) (M' := uL M 2017 0 0 v) (fun _ _ => rfl) (fun _ _ => rfl) h.UP, qFN_cg (C := C) (C' := C) (M := M) (M' := uL M 2017 0 0 v) (fun _ _ => rfl) (fun _ _ => rfl) h.FN, qNO_cg (C := C) (C' := C) (M := M) (M' := uL M 2017 0 0 v) (fun _ _ => rfl) h.NO, qB2_cg (C := C) (C' := C) (M := M) (M' := uL M 2017 0 0 v) (fun _ _ => rfl) (fun _ _ => rfl) (fun _ _ => rfl) (fun _ _ => rfl) (fun _ _ => rfl) (fun _ _ => rfl) (fun _ _ => rfl) (fun _ _ => rfl) (fun _ _ => rfl) (fun _ _ => rfl) (fun _ _ => rfl) (fun _ _ => rfl) (fun _ _ => rfl) (fun _ _ => rfl) (fun _ _ => rfl) (fun _ _ => rfl) (fun _ _ => rfl) (fun _ _ => rfl) h.B2, qRW_cg (C := C) (C' := C) (M := M) (M' := uL M 2017 0 0 v) (fun _ _ => rfl) (fun _ _ => rfl) h.RW, qEV_cg (C := C) (C' := C) (M := M) (M' := uL M 2017 0 0 v) (fun _ _ => rfl) (fun _ _ => rfl) (fun _ _ => rfl) h.EV, qST_cg (C := C) (C' := C) (M := M) (M' := uL M 2017 0 0 v) (fun _ _ => rfl) (fun _ _ => rfl) (fun _ _ => rfl) (fun _ _ => rfl) (fun _ _ => rfl) (fun _ _ => rfl) h.ST, qPD_cg (C := C) (C' := C) (M := M) (M' := uL M 2017 0 0 v) (fun _ _ => rfl) (fun _ _ => rfl) h.PD, qBS_cg (C := C) (C' := C) (M := M) (M' := uL M 2017 0 0 v) (fun _ _ => rfl) (fun _ _ => rfl) h.BS, qTO_cg (C := C) (C' := C) (M := M) (M' := uL M 2017 0 0 v) (fun _ _ => rfl) (fun i j => by rw [L_uL, if_neg (fun z => absurd z.1 (by decide))]) h.TO, qPA_cg (C := C) (C' := C) (M := M) (M' := uL M 2017 0 0 v) (fun _ _ => rfl) h.PA, qHT_cg (C := C) (C' := C) (M := M) (M' := uL M 2017 0 0 v) (fun _ _ => rfl) h.HT, qLN_cg (C := C) (C' := C) (M := M) (M' := uL M 2017 0 0 v) (fun _ _ => rfl) h.LN, qRC_cg (C := C) (C' := C) (M := M) (M' := uL M 2017 0 0 v) (fun _ _ => rfl) (fun _ _ => rfl) (fun _ _ => rfl) (fun _ _ => rfl) (fun _ _ => rfl) (fun _ _ => rfl) (fun _ _ => rfl) (fun _ _ => rfl) h.RC, qRE_cg (C := C) (C' := C) (M := M) (M' := uL M 2017 0 0 v) (fun _ _ => rfl) (fun _ _ => rfl) h.RE, qHD_cg (C := C) (C' := C) (M := M) (M' := uL M 2017 0 0 v) (fun _ _ => rfl) (fun _ _ => rfl) (fun _ _ => rfl) h.HD, qEE_cg (C := C) (C' := C) (M := M) (M' := uL M 2017 0 0 v) (fun _ _ => rfl) (fun _ _ => rfl) h.EE, qTX_cg (C := C) (C' := C) (M := M) (M' := uL M 2017 0 0 v) (fun _ _ => rfl) (fun _ _ => rfl) (fun _ _ => rfl) (fun _ _ => rfl) (fun _ _ => rfl) (fun _ _ => rfl) (fun _ _ => rfl) (fun _ _ => rfl) (fun _ _ => rfl) (fun _ _ => rfl) (fun _ _ => rfl) (fun _ _ => rfl) h.TX, qTB_cg (C := C) (C' := C) (M := M) (M' := uL M 2017 0 0 v) (fun _ _ => rfl) (fun _ _ => rfl) (fun _ _ => rfl) (fun _ _ => rfl) (fun _ _ => rfl) (fun _ _ => rfl) h.TB, qTK_cg (C := C) (C' := C) (M := M) (M' := uL M 2017 0 0 v) (fun _ _ => rfl) (fun _ _ => rfl) (fun _ _ => rfl) (fun _ _ => rfl) (fun _ _ => rfl) (fun _ _ => rfl) (fun _ _ => rfl) (fun _ _ => rfl) (fun _ _ => rfl) h.TK, qLV_cg (C := C) (C' := C) (M := M) (M' := uL M 2017 0 0 v) (fun _ _ => rfl) (fun _ _ => rfl) h.LV, qTN_cg (C := C) (C' := C) (M := M) (M' := uL M 2017 0 0 v) (fun _ _ => rfl) h.TN, qPR_cg (C := C) (C' := C) (M := M) (M' := uL M 2017 0 0 v) (fun _ _ => rfl) (fun _ _ => rfl) (fun _ _ => rfl) (fun _ _ => rfl) (fun _ _ => rfl) (fun _ _ => rfl) h.PR, qBG_cg (C := C) (C' := C) (M := M) (M' := uL M 2017 0 0 v) (fun _ _ => rfl) h.BG, qDR_cg (C := C) (C' := C) (M := M) (M' := uL M 2017 0 0 v) (fun _ _ => rfl) (fun _ _ => rfl) h.DR, qVA_cg (C := C) (C' := C) (M := M) (M' := uL M 2017 0 0 v) (fun _ _ => rfl) (fun _ _ => rfl) (fun _ _ => rfl) (fun _ _ => rfl) h.VA, qVO_cg (C := C) (C' := C) (M := M) (M' := uL M 2017 0 0 v) (fun _ _ => rfl) (fun _ _ => rfl) (fun _ _ => rfl) (fun _ _ => rfl) (fun _ _ => rfl) (fun _ _ => rfl) (fun _ _ => rfl) (fun _ _ => rfl) (fun _ _ => rfl) (fun _ _ => rfl) h.VO, qJU_cg (C := C) (C' := C) (M := M) (M' := uL M 2017 0 0 v) (fun _ _ => rfl) (fun _ _ => rfl) h.JU, qBL_cg (C := C) (C' := C) (M := M) (M' := uL M 2017 0 0 v) (fun _ _ => rfl) (fun _ _ => rfl) (fun _ _ => rfl) h.BL, qJL_cg (C := C) (C' := C) (M := M) (M' := uL M 2017 0 0 v) (fun _ _ => rfl) (fun _ _ => rfl) h.JL, qSI_cg (C := C) (C' := C) (M := M) (M' := uL M 2017 0 0 v) (fun _ _ => rfl) h.SI, qBB_cg (C := C) (C' := C) (M := M) (M' := uL M 2017 0 0 v) (fun _ _ => rfl) h.BB, qRT_cg (C := C) (C' := C) (M := M) (M' := uL M 2017 0 0 v) (fun _ _ => rfl) (fun _ _ => rfl) (fun _ _ => rfl) (fun _ _ => rfl) (fun _ _ => rfl) h.RT, qF0_cg (C := C) (C' := C) (M := M) (M' := uL M 2017 0 0 v) (fun _ _ => rfl) (fun _ _ => rfl) (fun _ _ => rfl) (fun _ _ => rfl) (fun _ _ => rfl) (fun _ _ => rfl) (fun _ _ => rfl) h.F0, qGH_cg (C := C) (C' := C) (M := M) (M' := uL M 2017 0 0 v) (fun _ _ => rfl) (fun _ _ => rfl) (fun _ _ => rfl) (fun _ _ => rfl) (fun _ _ => rfl) (fun _ _ => rfl) (fun _ _ => rfl) (fun _ _ => rfl) (fun _ _ => rfl) (fun _ _ => rfl) (fun _ _ => rfl) (fun _ _ => rfl) (fun _ _ => rfl) (fun _ _ => rfl) (fun _ _ => rfl) (fun _ _ => rfl) (fun _ _ => rfl) (fun _ _ => rfl) (fun _ _ => rfl) (fun _ _ => rfl) (fun _ _ => rfl) h.GH⟩
/-- what an answer leaves -/
def ans (Ω : XO) (v : Int64) (k : Int32) : XO := uI (uL Ω 2017 0 0 v) 1160 0 0 k
theorem RGD.ans {D : XD} {Ω : XO} (h : RGD D Ω Ω) (v : Int64) (k : Int32) : RGD D (ans Ω v k) (ans Ω v k) := by
  refine h.keep (fun q hq i j => ?_) (fun q hq i j => ?_)
  · show xI (uI (uL Ω 2017 0 0 v) 1160 0 0 k) q i j = _
    rw [I_uI, if_neg (fun z => absurd (z.1 ▸ hq) (by decide))]
    rfl
  · show xL (uI (uL Ω 2017 0 0 v) 1160 0 0 k) q i j = _
    rw [L_uI, L_uL, if_neg (fun z => hq z.1)]
theorem RGD.thr {D : XD} {Ω : XO} (h : RGD D Ω Ω) (k : Int32) : RGD D (uI Ω 1160 0 0 k) (uI Ω 1160 0 0 k) := by
  refine h.keep (fun q hq i j => ?_) (fun q hq i j => ?_)
  · rw [I_uI, if_neg (fun z => absurd (z.1 ▸ hq) (by decide))]
  · rw [L_uI]
theorem ans_I (Ω : XO) (v : Int64) (k : Int32) {f i j : Nat} (h : f ≠ 1160) : xI (ans Ω v k) f i j = xI Ω f i j := by
  show xI (uI (uL Ω 2017 0 0 v) 1160 0 0 k) f i j = _
  rw [I_uI, if_neg (fun z => h z.1)]
  rfl
theorem ans_t (Ω : XO) (v : Int64) (k : Int32) : xI (ans Ω v k) 1160 0 0 = k := by
  show xI (uI (uL Ω 2017 0 0 v) 1160 0 0 k) 1160 0 0 = _
  rw [I_uI, if_pos ⟨rfl, rfl, rfl⟩]
theorem ans_o (Ω : XO) (v : Int64) (k : Int32) : xL (ans Ω v k) 2017 0 0 = v := by
  show xL (uI (uL Ω 2017 0 0 v) 1160 0 0 k) 2017 0 0 = _
  rw [L_uI, L_uL, if_pos ⟨rfl, rfl, rfl⟩]
theorem thr_t (Ω : XO) (k : Int32) : xI (uI Ω 1160 0 0 k) 1160 0 0 = k := by rw [I_uI, if_pos ⟨rfl, rfl, rfl⟩]
