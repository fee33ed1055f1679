/-- the world: ints, longs, references that change: by field, object, place -/
abbrev XO : Type := (Nat → Nat → Nat → Int32) × (Nat → Nat → Nat → Int64) × (Nat → Nat → Nat)
def xI (Ω : XO) (f i j : Nat) : Int32 := Ω.1 f i j
def xL (Ω : XO) (f i j : Nat) : Int64 := Ω.2.1 f i j
def xR (Ω : XO) (f i : Nat) : Nat := Ω.2.2 f i
def uI (Ω : XO) (f i j : Nat) (v : Int32) : XO := (fun a b c => if a = f ∧ b = i ∧ c = j then v else Ω.1 a b c, Ω.2.1, Ω.2.2)
def uL (Ω : XO) (f i j : Nat) (v : Int64) : XO := (Ω.1, fun a b c => if a = f ∧ b = i ∧ c = j then v else Ω.2.1 a b c, Ω.2.2)
def uR (Ω : XO) (f i : Nat) (v : Nat) : XO := (Ω.1, Ω.2.1, fun a b => if a = f ∧ b = i then v else Ω.2.2 a b)
/-- row (f, i) copied into row (g, h) -/
def cI (Ω : XO) (f i g h sp dp n : Nat) : XO := (fun a b c => if a = g ∧ b = h then va_cpy (Ω.1 f i) (Ω.1 g h) sp dp n c else Ω.1 a b c, Ω.2.1, Ω.2.2)
theorem I_uI (Ω : XO) (f i j : Nat) (v : Int32) (a b c : Nat) : xI (uI Ω f i j v) a b c = if a = f ∧ b = i ∧ c = j then v else xI Ω a b c := rfl
theorem I_uL (Ω : XO) (f i j : Nat) (v : Int64) (a b c : Nat) : xI (uL Ω f i j v) a b c = xI Ω a b c := rfl
theorem I_uR (Ω : XO) (f i v a b c : Nat) : xI (uR Ω f i v) a b c = xI Ω a b c := rfl
theorem L_uI (Ω : XO) (f i j : Nat) (v : Int32) (a b c : Nat) : xL (uI Ω f i j v) a b c = xL Ω a b c := rfl
theorem L_uL (Ω : XO) (f i j : Nat) (v : Int64) (a b c : Nat) : xL (uL Ω f i j v) a b c = if a = f ∧ b = i ∧ c = j then v else xL Ω a b c := rfl
theorem L_uR (Ω : XO) (f i v a b c : Nat) : xL (uR Ω f i v) a b c = xL Ω a b c := rfl
theorem R_uI (Ω : XO) (f i j : Nat) (v : Int32) (a b : Nat) : xR (uI Ω f i j v) a b = xR Ω a b := rfl
theorem R_uL (Ω : XO) (f i j : Nat) (v : Int64) (a b : Nat) : xR (uL Ω f i j v) a b = xR Ω a b := rfl
theorem R_uR (Ω : XO) (f i v a b : Nat) : xR (uR Ω f i v) a b = if a = f ∧ b = i then v else xR Ω a b := rfl
theorem I_cI (Ω : XO) (f i g h sp dp n a b c : Nat) : xI (cI Ω f i g h sp dp n) a b c = if a = g ∧ b = h then va_cpy (xI Ω f i) (xI Ω g h) sp dp n c else xI Ω a b c := rfl
theorem L_cI (Ω : XO) (f i g h sp dp n a b c : Nat) : xL (cI Ω f i g h sp dp n) a b c = xL Ω a b c := rfl
theorem R_cI (Ω : XO) (f i g h sp dp n a b : Nat) : xR (cI Ω f i g h sp dp n) a b = xR Ω a b := rfl
/-- what a field is: 0 int, 1 boolean, 2 long, 3 a reference that stays, 4 one that changes -/
def ftb : List (List Nat) := [[0, 3, 0, 0, 0, 0, 0, 3, 0, 3, 0, 0, 0, 1, 1, 0, 0, 2], [3, 0, 3, 0, 0, 3], [3, 0], [3, 0, 3, 0, 0, 0, 0, 0, 0, 0, 0, 3, 0, 0], [3, 3, 3, 4, 4, 0, 0, 0, 1], [3, 3, 3], [3, 3, 3, 3, 0, 2], [0, 0, 0, 0, 0, 0, 0, 0, 0, 0, 0, 0, 1], [3, 0, 1], [0, 0, 0, 0], [3, 3, 3], [3, 3, 3, 3, 3, 3, 1, 3, 3, 3, 3, 3, 3, 3, 3, 3, 3, 3, 3, 3, 3, 3, 3, 3, 3, 3, 3, 3, 3, 3, 3, 3, 3, 3, 3, 3, 3, 3, 3, 3, 3, 3, 3, 3, 3, 3, 3, 3, 3, 3, 3, 3, 3, 0, 0, 0, 1, 0, 0, 3, 0]]
def rkt : List (List Nat) := [[0, 6, 0, 0, 0, 0, 0, 2000, 0, 2001, 0, 0, 0, 0, 0, 0, 0, 0], [2002, 0, 2003, 0, 0, 2], [2004, 0], [2005, 0, 2006, 0, 0, 0, 0, 0, 0, 0, 0, 6, 0, 0], [5, 2007, 0, 0, 6, 0, 0, 0, 0], [2008, 2009, 2010], [2011, 2012, 2013, 2014, 0, 0], [0, 0, 0, 0, 0, 0, 0, 0, 0, 0, 0, 0, 0], [2015, 0, 0], [0, 0, 0, 0], [5, 4, 2016], [2100, 2101, 2102, 2103, 2104, 2105, 0, 2107, 2108, 2109, 2110, 2111, 2112, 2113, 2114, 2115, 2116, 2117, 2118, 2119, 2120, 2121, 2122, 2123, 2124, 2125, 2126, 2127, 2128, 2129, 2130, 2131, 2132, 2133, 2134, 2135, 2136, 2137, 2138, 2139, 2140, 2141, 2142, 2143, 2144, 2145, 2146, 2147, 2148, 2149, 2150, 2151, 2152, 0, 0, 0, 0, 0, 0, 2159, 0]]
def ftp (k j : Nat) : Nat := (ftb.getD k []).getD j 0
def nfl (k : Nat) : Nat := (ftb.getD k []).length
def rtk (k j : Nat) : Nat := (rkt.getD k []).getD j 0
def rti (k j i : Nat) : Nat := if k = 3 ∧ j = 11 then 49 + i else if k = 4 ∧ j = 2 then 48 else i
/-- rows: length, type (0 int, 1 long, further ones references) -/
def art : List (Nat × Nat) := [(40, 0), (40, 0), (24, 2), (40, 5), (4, 6), (16, 0), (16, 0), (4, 4), (160, 0), (160, 0), (8, 0), (16, 0), (16, 0), (16, 0), (64, 0), (20, 7), (2, 3), (6, 0), (64, 0)]
def arm : List (Nat × Nat) := [(5760, 0), (120, 0), (600, 0), (160, 0), (160, 0), (8, 0), (0, 0), (2, 0), (2, 0), (2, 0), (2, 0), (80, 0), (80, 0), (80, 0), (80, 0), (80, 0), (80, 0), (80, 0), (80, 0), (80, 0), (48, 0), (48, 0), (48, 0), (48, 1), (48, 0), (48, 0), (48, 0), (48, 0), (48, 0), (48, 0), (48, 0), (1920, 0), (1920, 0), (48, 0), (1152, 0), (160, 0), (160, 0), (160, 0), (8, 0), (8, 0), (5, 0), (5, 0), (5, 0), (5, 0), (5, 0), (5, 0), (5, 0), (80, 0), (5, 0), (80, 0), (5, 0), (5, 0), (5, 0), (0, 0), (0, 0), (0, 0), (0, 0), (0, 0), (0, 0), (16, 0), (0, 0)]
def arx (k : Nat) : Nat × Nat := if k < 2100 then art.getD (k - 2000) (0, 0) else arm.getD (k - 2100) (0, 0)
def alen (k : Nat) : Nat := (arx k).1
def aty (k : Nat) : Nat := (arx k).2
def elk (k : Nat) : Nat := if k = 2002 then 0 else if k = 2003 then 7 else if k = 2004 then 8 else if k = 2007 then 3 else if k = 2015 then 9 else if k = 2016 then 1 else 0
def elm (k : Nat) : Nat := if k = 2002 then 24 else if k = 2003 then 40 else if k = 2004 then 4 else if k = 2015 then 20 else 0
def eli (k i j : Nat) : Nat := elm k * i + j
theorem rti_i {k j i : Nat} (h : (Nat.beq k 3 && Nat.beq j 11 || Nat.beq k 4 && Nat.beq j 2) = false) : rti k j i = i := by
  rw [Bool.or_eq_false_iff] at h
  unfold rti
  rw [if_neg, if_neg]
  · rintro ⟨rfl, rfl⟩; exact absurd h.2 (by decide)
  · rintro ⟨rfl, rfl⟩; exact absurd h.1 (by decide)
theorem rti_f (i : Nat) : rti 3 11 i = 49 + i := rfl
theorem rti_b (i : Nat) : rti 4 2 i = 48 := rfl
theorem eli_2002 (i j : Nat) : eli 2002 i j = 24 * i + j := rfl
theorem eli_2003 (i j : Nat) : eli 2003 i j = 40 * i + j := rfl
theorem eli_2004 (i j : Nat) : eli 2004 i j = 4 * i + j := rfl
theorem eli_2007 (i j : Nat) : eli 2007 i j = j := by show 0 * i + j = j; omega
theorem eli_2015 (i j : Nat) : eli 2015 i j = 20 * i + j := rfl
theorem eli_2016 (i j : Nat) : eli 2016 i j = j := by show 0 * i + j = j; omega
/-- what stays: launch, base, where a thing lies, what lies there, all addresses, the classes, the classes of rows, the static rows -/
abbrev XG : Type := Launch × Nat × (Nat → Nat → Nat) × (Nat → Nat × Nat) × List Nat × va_G × (Nat → ClassId) × (Nat → Nat)
def gl (G : XG) : Launch := G.1
def gb (G : XG) : Nat := G.2.1
def ad (G : XG) : Nat → Nat → Nat := G.2.2.1
def gk (G : XG) : Nat → Nat × Nat := G.2.2.2.1
def gL (G : XG) : List Nat := G.2.2.2.2.1
def gD (G : XG) : va_G := G.2.2.2.2.2.1
def gC (G : XG) : Nat → ClassId := G.2.2.2.2.2.2.1
def gT (G : XG) : Nat → Nat := G.2.2.2.2.2.2.2
def tysOf (G : XG) : List (ClassId × FieldType) := [(gC G 0, .int), (gC G 1, .int), (gC G 2, .object "ForkBridge$Block"), (gC G 3, .object "ForkBridge$Chain"), (gC G 4, .object "ForkBridge$Frame"), (gC G 5, .object "ForkBridge$Transaction"), (gC G 6, .object "ForkBridge$Validator"), (gC G 7, .object "ForkBridge$Vote")]
def fv (G : XG) (Ω : XO) (k i j : Nat) : Value := if ftp k j = 2 then .long (xL Ω (100 * k + j) i 0) else if ftp k j = 3 then .ref (ad G (rtk k j) (rti k j i)) else if ftp k j = 4 then .ref (ad G (rtk k j) (xR Ω (100 * k + j) i)) else .int (xI Ω (100 * k + j) i 0)
def EE (G : XG) (Ω : XO) (k i : Nat) : va_E := if k < 11 then .inr (k, (List.range (nfl k)).map (fv G Ω k i)) else if k < 2000 then .inr (k, []) else .inl (gC G (aty k), alen k, if aty k = 0 then .inl (xI Ω k i) else if aty k = 1 then .inr (.inl (xL Ω k i)) else .inr (.inr (.inr (.inr (fun j => some (ad G (elk k) (eli k i j)))))))
def pl (G : XG) (Ω : XO) : va_W := va_pl (gL G) (fun a => EE G Ω (gk G a).1 (gk G a).2)
/-- a thing that is there -/
def dm (G : XG) (k i : Nat) : Prop := ad G k i ∈ gL G ∧ gk G (ad G k i) = (k, i)
abbrev xA (G : XG) : Nat → Prop := fun q => gb G ≤ q
def XK (G : XG) : Prop := (gl G).stackTraces = false ∧ (∀ b ∈ gL G, ad G (gk G b).1 (gk G b).2 = b) ∧ (∀ f, va_D (xA G) (va_pl (gL G) f)) ∧
  (∀ k j i, dm G k i → k < 11 → j < nfl k → ftp k j = 3 → dm G (rtk k j) (rti k j i)) ∧ (∀ k i j, dm G k i → 2000 ≤ k → 2 ≤ aty k → j < alen k → dm G (elk k) (eli k i j))
theorem pl_get {G : XG} {Ω : XO} {k i : Nat} (h : dm G k i) : ∃ q : Nat, (pl G Ω)[q]? = some (ad G k i, EE G Ω k i) := by
  obtain ⟨q, hq⟩ := va_pl_get (X := []) (f := fun a => EE G Ω (gk G a).1 (gk G a).2) h.1
  refine ⟨q, ?_⟩
  have h2 : (pl G Ω)[q]? = some (ad G k i, EE G Ω (gk G (ad G k i)).1 (gk G (ad G k i)).2) := by
    rw [List.nil_append] at hq
    exact hq
  rw [h.2] at h2
  exact h2
theorem pl_set {G : XG} (hok : XK G) {Ω Ω' : XO} {k i q : Nat} (h : dm G k i) (hq : (pl G Ω)[q]? = some (ad G k i, EE G Ω k i)) (e : va_E) (he : EE G Ω' k i = e) (hne : ∀ k' i', ¬ (k' = k ∧ i' = i) → EE G Ω' k' i' = EE G Ω k' i') : (pl G Ω).set q (ad G k i, e) = pl G Ω' := by
  have hD := hok.2.2.1 (fun a => EE G Ω (gk G a).1 (gk G a).2)
  have h1 := va_pl_set (X := []) (L := gL G) (f := fun a => EE G Ω (gk G a).1 (gk G a).2) (a := ad G k i) (k := q) (e := e) (A := xA G) hD h.1 (by
    show (va_pl (gL G) _)[q]? = _
    have : (pl G Ω)[q]? = some (ad G k i, EE G Ω (gk G (ad G k i)).1 (gk G (ad G k i)).2) := by rw [h.2]; exact hq
    exact this)
  have h2 : (pl G Ω).set q (ad G k i, e) = va_pl (gL G) (va_up (fun a => EE G Ω (gk G a).1 (gk G a).2) (ad G k i) e) := h1
  rw [h2]
  unfold pl va_pl
  refine List.map_congr_left fun b hb => ?_
  by_cases hba : b = ad G k i
  · subst hba
    rw [va_up_self]
    show (_, e) = (_, EE G Ω' (gk G (ad G k i)).1 (gk G (ad G k i)).2)
    rw [h.2, he]
  · rw [va_up_ne _ _ hba]
    have hb2 := hok.2.1 b hb
    refine congrArg (Prod.mk b) (hne _ _ (fun hh => hba ?_)).symm
    rw [← hb2, hh.1, hh.2]
theorem EE_o {G : XG} {Ω : XO} {k i : Nat} (h : k < 11) : EE G Ω k i = .inr (k, (List.range (nfl k)).map (fv G Ω k i)) := if_pos h
theorem EE_a {G : XG} {Ω : XO} {k i : Nat} (h : 2000 ≤ k) : EE G Ω k i = .inl (gC G (aty k), alen k, if aty k = 0 then .inl (xI Ω k i) else if aty k = 1 then .inr (.inl (xL Ω k i)) else .inr (.inr (.inr (.inr (fun j => some (ad G (elk k) (eli k i j))))))) := by
  unfold EE
  rw [if_neg (by omega), if_neg (by omega)]
theorem EE_ai {G : XG} {Ω : XO} {k i : Nat} (h : 2000 ≤ k) (ht : aty k = 0) : EE G Ω k i = .inl (gC G 0, alen k, .inl (xI Ω k i)) := by rw [EE_a h, ht]; rfl
theorem EE_al {G : XG} {Ω : XO} {k i : Nat} (h : 2000 ≤ k) (ht : aty k = 1) : EE G Ω k i = .inl (gC G 1, alen k, .inr (.inl (xL Ω k i))) := by rw [EE_a h, ht]; rfl
theorem EE_ar {G : XG} {Ω : XO} {k i : Nat} (h : 2000 ≤ k) (ht : 2 ≤ aty k) : EE G Ω k i = .inl (gC G (aty k), alen k, .inr (.inr (.inr (.inr (fun j => some (ad G (elk k) (eli k i j))))))) := by rw [EE_a h, if_neg (by omega), if_neg (by omega)]
theorem nfl_lt : ∀ k, k < 11 → nfl k < 100 := by decide
theorem range_set {f g : Nat → Value} {n j : Nat} {v : Value} (hj : j < n) (hv : g j = v) (ho : ∀ a, a < n → a ≠ j → g a = f a) : ((List.range n).map f).set j v = (List.range n).map g := by
  apply List.ext_getElem?
  intro a
  by_cases ha : a < n
  · by_cases haj : a = j
    · subst haj
      rw [List.getElem?_set_self (by simpa using ha)]
      simp [ha, hv]
    · rw [List.getElem?_set_ne (Ne.symm haj)]
      simp [ha, ho a ha haj]
  · rw [List.getElem?_eq_none (by simpa using ha), List.getElem?_eq_none (by simpa using ha)]
/-- a field's new value, elsewhere nothing -/
theorem EE_uI {G : XG} {Ω : XO} {k i j : Nat} {v : Int32} (hk : k < 11) (hj : j < nfl k) (ht : ftp k j < 2) : EE G (uI Ω (100 * k + j) i 0 v) k i = .inr (k, ((List.range (nfl k)).map (fv G Ω k i)).set j (.int v)) := by
  have hj2 := nfl_lt k hk
  rw [EE_o hk, range_set (g := fv G (uI Ω (100 * k + j) i 0 v) k i) hj]
  · unfold fv
    rw [if_neg (by omega), if_neg (by omega), if_neg (by omega), I_uI, if_pos ⟨rfl, rfl, rfl⟩]
  · intro a ha haj
    unfold fv
    rw [L_uI, R_uI, I_uI, if_neg (c := _ ∧ _) (fun h => haj (by omega))]
theorem EE_uIn {G : XG} {Ω : XO} {k i j : Nat} {v : Int32} (hk : k < 11) (hj : j < nfl k) (k' i' : Nat) (h : ¬ (k' = k ∧ i' = i)) : EE G (uI Ω (100 * k + j) i 0 v) k' i' = EE G Ω k' i' := by
  have hj2 := nfl_lt k hk
  by_cases h1 : k' < 11
  · have hj3 := nfl_lt k' h1
    rw [EE_o h1, EE_o h1]
    refine congrArg (fun z => Sum.inr (k', z)) (List.map_congr_left fun a ha => ?_)
    have ha2 := List.mem_range.mp ha
    unfold fv
    rw [L_uI, R_uI, I_uI, if_neg (c := _ ∧ _) (fun hh => h ⟨by omega, hh.2.1⟩)]
  · by_cases h2 : k' < 2000
    · unfold EE
      rw [if_neg h1, if_neg h1, if_pos h2, if_pos h2]
    · rw [EE_a (by omega), EE_a (by omega)]
      have e1 : xI (uI Ω (100 * k + j) i 0 v) k' i' = xI Ω k' i' := by
        funext c
        rw [I_uI, if_neg (fun hh => by omega)]
      rw [e1]
      rfl
theorem EE_uL {G : XG} {Ω : XO} {k i j : Nat} {v : Int64} (hk : k < 11) (hj : j < nfl k) (ht : ftp k j = 2) : EE G (uL Ω (100 * k + j) i 0 v) k i = .inr (k, ((List.range (nfl k)).map (fv G Ω k i)).set j (.long v)) := by
  have hj2 := nfl_lt k hk
  rw [EE_o hk, range_set (g := fv G (uL Ω (100 * k + j) i 0 v) k i) hj]
  · unfold fv
    rw [if_pos ht, L_uL, if_pos ⟨rfl, rfl, rfl⟩]
  · intro a ha haj
    unfold fv
    rw [L_uL, R_uL, I_uL, if_neg (c := _ ∧ _) (fun h => haj (by omega))]
theorem EE_uLn {G : XG} {Ω : XO} {k i j : Nat} {v : Int64} (hk : k < 11) (hj : j < nfl k) (k' i' : Nat) (h : ¬ (k' = k ∧ i' = i)) : EE G (uL Ω (100 * k + j) i 0 v) k' i' = EE G Ω k' i' := by
  have hj2 := nfl_lt k hk
  by_cases h1 : k' < 11
  · have hj3 := nfl_lt k' h1
    rw [EE_o h1, EE_o h1]
    refine congrArg (fun z => Sum.inr (k', z)) (List.map_congr_left fun a ha => ?_)
    have ha2 := List.mem_range.mp ha
    unfold fv
    rw [L_uL, R_uL, I_uL, if_neg (c := _ ∧ _) (fun hh => h ⟨by omega, hh.2.1⟩)]
  · by_cases h2 : k' < 2000
    · unfold EE
      rw [if_neg h1, if_neg h1, if_pos h2, if_pos h2]
    · rw [EE_a (by omega), EE_a (by omega)]
      have e1 : xL (uL Ω (100 * k + j) i 0 v) k' i' = xL Ω k' i' := by
        funext c
        rw [L_uL, if_neg (fun hh => by omega)]
      rw [e1]
      rfl
theorem EE_uR {G : XG} {Ω : XO} {k i j v : Nat} (hk : k < 11) (hj : j < nfl k) (ht : ftp k j = 4) : EE G (uR Ω (100 * k + j) i v) k i = .inr (k, ((List.range (nfl k)).map (fv G Ω k i)).set j (.ref (ad G (rtk k j) v))) := by
  have hj2 := nfl_lt k hk
  rw [EE_o hk, range_set (g := fv G (uR Ω (100 * k + j) i v) k i) hj]
  · unfold fv
    rw [if_neg (by omega), if_neg (by omega), if_pos ht, R_uR, if_pos ⟨rfl, rfl⟩]
  · intro a ha haj
    unfold fv
    rw [L_uR, R_uR, I_uR, if_neg (c := _ ∧ _) (fun h => haj (by omega))]
theorem EE_uRn {G : XG} {Ω : XO} {k i j v : Nat} (hk : k < 11) (hj : j < nfl k) (k' i' : Nat) (h : ¬ (k' = k ∧ i' = i)) : EE G (uR Ω (100 * k + j) i v) k' i' = EE G Ω k' i' := by
  have hj2 := nfl_lt k hk
  by_cases h1 : k' < 11
  · have hj3 := nfl_lt k' h1
    rw [EE_o h1, EE_o h1]
    refine congrArg (fun z => Sum.inr (k', z)) (List.map_congr_left fun a ha => ?_)
    have ha2 := List.mem_range.mp ha
    unfold fv
    rw [L_uR, R_uR, I_uR, if_neg (c := _ ∧ _) (fun hh => h ⟨by omega, hh.2⟩)]
  · by_cases h2 : k' < 2000
    · unfold EE
      rw [if_neg h1, if_neg h1, if_pos h2, if_pos h2]
    · rw [EE_a (by omega), EE_a (by omega)]
      rfl
/-- a place of a row, elsewhere nothing -/
theorem EE_sI {G : XG} {Ω : XO} {k i j : Nat} {v : Int32} (hk : 2000 ≤ k) (ht : aty k = 0) : EE G (uI Ω k i j v) k i = .inl (gC G 0, alen k, .inl (upd (xI Ω k i) j v)) := by
  rw [EE_ai hk ht]
  have e : xI (uI Ω k i j v) k i = upd (xI Ω k i) j v := by
    funext c
    rw [I_uI]
    by_cases hc : c = j
    · rw [if_pos ⟨rfl, rfl, hc⟩]; simp [upd, hc]
    · rw [if_neg (fun h => hc h.2.2)]; simp [upd, hc]
  rw [e]
theorem EE_sIn {G : XG} {Ω : XO} {k i j : Nat} {v : Int32} (hk : 2000 ≤ k) (k' i' : Nat) (h : ¬ (k' = k ∧ i' = i)) : EE G (uI Ω k i j v) k' i' = EE G Ω k' i' := by
  by_cases h1 : k' < 11
  · have hj3 := nfl_lt k' h1
    rw [EE_o h1, EE_o h1]
    refine congrArg (fun z => Sum.inr (k', z)) (List.map_congr_left fun a ha => ?_)
    have ha2 := List.mem_range.mp ha
    unfold fv
    rw [L_uI, R_uI, I_uI, if_neg (c := _ ∧ _) (fun hh => by omega)]
  · by_cases h2 : k' < 2000
    · unfold EE
      rw [if_neg h1, if_neg h1, if_pos h2, if_pos h2]
    · rw [EE_a (by omega), EE_a (by omega)]
      have e1 : xI (uI Ω k i j v) k' i' = xI Ω k' i' := by
        funext c
        rw [I_uI, if_neg (fun hh => h ⟨hh.1, hh.2.1⟩)]
      rw [e1]
      rfl
theorem EE_sL {G : XG} {Ω : XO} {k i j : Nat} {v : Int64} (hk : 2000 ≤ k) (ht : aty k = 1) : EE G (uL Ω k i j v) k i = .inl (gC G 1, alen k, .inr (.inl (vp_updL (xL Ω k i) j v))) := by
  rw [EE_al hk ht]
  have e : xL (uL Ω k i j v) k i = vp_updL (xL Ω k i) j v := by
    funext c
    rw [L_uL]
    by_cases hc : c = j
    · rw [if_pos ⟨rfl, rfl, hc⟩]; simp [vp_updL, hc]
    · rw [if_neg (fun h => hc h.2.2)]; simp [vp_updL, hc]
  rw [e]
theorem EE_sLn {G : XG} {Ω : XO} {k i j : Nat} {v : Int64} (hk : 2000 ≤ k) (k' i' : Nat) (h : ¬ (k' = k ∧ i' = i)) : EE G (uL Ω k i j v) k' i' = EE G Ω k' i' := by
  by_cases h1 : k' < 11
  · have hj3 := nfl_lt k' h1
    rw [EE_o h1, EE_o h1]
    refine congrArg (fun z => Sum.inr (k', z)) (List.map_congr_left fun a ha => ?_)
    have ha2 := List.mem_range.mp ha
    unfold fv
    rw [L_uL, R_uL, I_uL, if_neg (c := _ ∧ _) (fun hh => by omega)]
  · by_cases h2 : k' < 2000
    · unfold EE
      rw [if_neg h1, if_neg h1, if_pos h2, if_pos h2]
    · rw [EE_a (by omega), EE_a (by omega)]
      have e1 : xL (uL Ω k i j v) k' i' = xL Ω k' i' := by
        funext c
        rw [L_uL, if_neg (fun hh => h ⟨hh.1, hh.2.1⟩)]
      rw [e1]
      rfl
theorem EE_cI {G : XG} {Ω : XO} {f i g h sp dp n : Nat} (hk : 2000 ≤ g) (ht : aty g = 0) : EE G (cI Ω f i g h sp dp n) g h = .inl (gC G 0, alen g, .inl (va_cpy (xI Ω f i) (xI Ω g h) sp dp n)) := by
  rw [EE_ai hk ht]
  have e : xI (cI Ω f i g h sp dp n) g h = va_cpy (xI Ω f i) (xI Ω g h) sp dp n := by
    funext c
    rw [I_cI, if_pos ⟨rfl, rfl⟩]
  rw [e]
theorem EE_cIn {G : XG} {Ω : XO} {f i g h sp dp n : Nat} (hk : 2000 ≤ g) (k' i' : Nat) (hh : ¬ (k' = g ∧ i' = h)) : EE G (cI Ω f i g h sp dp n) k' i' = EE G Ω k' i' := by
  by_cases h1 : k' < 11
  · have hj3 := nfl_lt k' h1
    rw [EE_o h1, EE_o h1]
    refine congrArg (fun z => Sum.inr (k', z)) (List.map_congr_left fun a ha => ?_)
    have ha2 := List.mem_range.mp ha
    unfold fv
    rw [L_cI, R_cI, I_cI, if_neg (c := _ ∧ _) (fun z => by omega)]
  · by_cases h2 : k' < 2000
    · unfold EE
      rw [if_neg h1, if_neg h1, if_pos h2, if_pos h2]
    · rw [EE_a (by omega), EE_a (by omega)]
      have e1 : xI (cI Ω f i g h sp dp n) k' i' = xI Ω k' i' := by
        funext c
        rw [I_cI, if_neg hh]
      rw [e1]
      rfl
