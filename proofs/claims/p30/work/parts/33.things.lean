def tSt (i : Nat) : List (Nat × Nat) := [(6, i), (2011, i), (2012, i), (2013, i), (2014, i)]
def tBl (i : Nat) : List (Nat × Nat) := [(0, i)] ++ tSt i ++ [(2000, i)] ++ [(2001, i)]
def tFr (f : Nat) : List (Nat × Nat) := [(3, f)] ++ [(2005, f)] ++ [(2006, f)] ++ tSt (49 + f)
def tVa (i : Nat) : List (Nat × Nat) := [(8, i)] ++ [(2015, i)] ++ (List.range 20).flatMap (fun v => [(9, 20 * i + v)])
def tFi (c : Nat) : List (Nat × Nat) := [(2, c)] ++ [(2004, c)] ++ (List.range 4).flatMap (fun v => tVa (4 * c + v))
def tMa : List (Nat × Nat) := [(4, 0)] ++ [(2007, 0)] ++ tBl 48 ++ (List.range 4).flatMap tFr
def tPr : List (Nat × Nat) := [(5, 0)] ++ [(2008, 0)] ++ [(2009, 0)] ++ [(2010, 0)]
def tCh (c : Nat) : List (Nat × Nat) := [(1, c)] ++ [(2002, c)] ++ [(2003, c)] ++ tFi c ++ (List.range 24).flatMap (fun b => tBl (24 * c + b)) ++ (List.range 40).flatMap (fun t => [(7, 40 * c + t)])
def tFB : List (Nat × Nat) := [(10, 0)] ++ tPr ++ tMa ++ [(2016, 0)] ++ (List.range 2).flatMap tCh
def TT : List (Nat × Nat) := tFB ++ [(2017, 0)]
def pB (i : Nat) : Nat := if i = 48 then 7 else 141 + 325 * (i / 24) + 8 * (i % 24)
def pS (i : Nat) : Nat := if 49 ≤ i then 18 + 8 * (i - 49) else pB i + 1
def pos (k i : Nat) : Nat :=
  if k < 11 then (if k = 0 then pB i else if k = 1 then 48 + 325 * i else if k = 2 then 51 + 325 * i else if k = 3 then 15 + 8 * i else if k = 4 then 5 else if k = 5 then 1 else if k = 6 then pS i else if k = 7 then 333 + 325 * (i / 40) + i % 40 else if k = 8 then 53 + 325 * (i / 4) + 22 * (i % 4) else if k = 9 then 55 + 325 * (i / 80) + 22 * (i / 20 % 4) + i % 20 else if k = 10 then 0 else 698)
  else if k < 2100 then (if k = 2000 then pB i + 6 else if k = 2001 then pB i + 7 else if k = 2002 then 49 + 325 * i else if k = 2003 then 50 + 325 * i else if k = 2004 then 52 + 325 * i else if k = 2005 then 16 + 8 * i else if k = 2006 then 17 + 8 * i else if k = 2007 then 6 else if k = 2008 then 2 else if k = 2009 then 3 else if k = 2010 then 4 else if k = 2011 then pS i + 1 else if k = 2012 then pS i + 2 else if k = 2013 then pS i + 3 else if k = 2014 then pS i + 4 else if k = 2015 then 54 + 325 * (i / 4) + 22 * (i % 4) else if k = 2016 then 47 else 698)
  else if k < 2106 then k - 1401 else if k < 2153 then k - 1402 else 751
def gA (b0 : Nat) (k i : Nat) : Nat := b0 + pos k i
def gK (b0 : Nat) (a : Nat) : Nat × Nat := TT.getD (a - b0) (0, 0)
def gR (lo n : Nat) : List Nat := (List.range n).map (fun j => lo + j)
/-- the things from place p on, n of them -/
def GA (l : Launch) (b0 : Nat) (D : va_G) (C : Nat → ClassId) (T : Nat → Nat) (p n : Nat) : XG := (l, b0 + p, gA b0, gK b0, gR (b0 + p) n, D, C, T)
theorem TT_len : TT.length = 699 := by decide +kernel
def chk : List (Nat × Nat) → Nat → Bool
  | [], _ => true
  | x :: l, q => Nat.beq (pos x.1 x.2) q && chk l (q + 1)
theorem chk_ok : ∀ (l : List (Nat × Nat)) (q0 : Nat), chk l q0 = true → ∀ q x, l[q]? = some x → pos x.1 x.2 = q0 + q
  | [], _, _, q, x, hx => by cases hx
  | y :: l, q0, h, q, x, hx => by
    have h2 := Bool.and_eq_true_iff.mp (show (Nat.beq (pos y.1 y.2) q0 && chk l (q0 + 1)) = true from h)
    cases q with
    | zero =>
      rw [List.getElem?_cons_zero] at hx
      cases hx
      exact Nat.eq_of_beq_eq_true h2.1
    | succ q =>
      rw [List.getElem?_cons_succ] at hx
      have := chk_ok l (q0 + 1) h2.2 q x hx
      omega
set_option maxRecDepth 100000 in
theorem chk_TT : chk TT 0 = true := by decide +kernel
theorem pos_TT : ∀ q, q < 699 → pos (TT.getD q (0, 0)).1 (TT.getD q (0, 0)).2 = q := by
  intro q hq
  cases h : TT[q]? with
  | none =>
    rw [List.getElem?_eq_none_iff, TT_len] at h
    omega
  | some x =>
    have h2 := chk_ok TT 0 chk_TT q x h
    rw [List.getD_eq_getElem?_getD, h]
    show pos x.1 x.2 = q
    omega
/-- what a range of things reaches lies in it -/
def clo (p n : Nat) : Bool := (List.range n).all (fun q => (fun x : Nat × Nat => (if Nat.blt x.1 11 then (List.range (nfl x.1)).all (fun j => !(Nat.beq (ftp x.1 j) 3) || (fun t => Nat.ble p t && Nat.blt t (p + n) && (TT.getD t (0, 0) == (rtk x.1 j, rti x.1 j x.2))) (pos (rtk x.1 j) (rti x.1 j x.2))) else true) && (if Nat.ble 2000 x.1 && Nat.ble 2 (aty x.1) then (List.range (alen x.1)).all (fun j => (fun t => Nat.ble p t && Nat.blt t (p + n) && (TT.getD t (0, 0) == (elk x.1, eli x.1 x.2 j))) (pos (elk x.1) (eli x.1 x.2 j))) else true)) (TT.getD (p + q) (0, 0)))
theorem GA_dm {l : Launch} {b0 : Nat} {D : va_G} {C : Nat → ClassId} {T : Nat → Nat} {p n : Nat} {k i : Nat} (h1 : p ≤ pos k i) (h2 : pos k i < p + n) (h3 : TT.getD (pos k i) (0, 0) = (k, i)) : dm (GA l b0 D C T p n) k i := by
  refine ⟨List.mem_map.mpr ⟨pos k i - p, List.mem_range.mpr (by omega), ?_⟩, ?_⟩
  · show b0 + p + (pos k i - p) = b0 + pos k i
    omega
  · show TT.getD (b0 + pos k i - b0) (0, 0) = (k, i)
    rw [Nat.add_sub_cancel_left]
    exact h3
theorem GA_of {l : Launch} {b0 : Nat} {D : va_G} {C : Nat → ClassId} {T : Nat → Nat} {p n : Nat} {k i : Nat} (h : dm (GA l b0 D C T p n) k i) : ∃ q, q < n ∧ TT.getD (p + q) (0, 0) = (k, i) := by
  obtain ⟨q, hq, e⟩ := List.mem_map.mp h.1
  refine ⟨q, List.mem_range.mp hq, ?_⟩
  have e2 : b0 + p + q = b0 + pos k i := e
  have h2 : TT.getD (b0 + pos k i - b0) (0, 0) = (k, i) := h.2
  rw [← e2, show b0 + p + q - b0 = p + q by omega] at h2
  exact h2
theorem GA_XK {l : Launch} {b0 : Nat} {D : va_G} {C : Nat → ClassId} {T : Nat → Nat} {p n : Nat} (hst : l.stackTraces = false) (hn : p + n ≤ 699) (hc : clo p n = true) : XK (GA l b0 D C T p n) := by
  have hc2 := fun q (hq : q < n) => Bool.and_eq_true_iff.mp (List.all_eq_true.mp hc q (List.mem_range.mpr hq))
  refine ⟨hst, ?_, ?_, ?_, ?_⟩
  · intro a ha
    obtain ⟨q, hq, rfl⟩ := List.mem_map.mp ha
    have hq := List.mem_range.mp hq
    show b0 + pos (TT.getD (b0 + p + q - b0) (0, 0)).1 (TT.getD (b0 + p + q - b0) (0, 0)).2 = b0 + p + q
    rw [show b0 + p + q - b0 = p + q by omega, pos_TT _ (by omega)]
    omega
  · intro f
    have hg : ∀ (i : Nat) (x : Nat × va_E), (va_pl (gR (b0 + p) n) f)[i]? = some x → x.1 = b0 + p + i := by
      intro i x hx
      have hi : i < n := by
        have := (List.getElem?_eq_some_iff.mp hx).1
        simpa [va_pl, gR] using this
      have : (va_pl (gR (b0 + p) n) f)[i]? = some (b0 + p + i, f (b0 + p + i)) := by simp [va_pl, gR, hi]
      rw [this] at hx
      cases hx
      rfl
    refine ⟨fun i j x y hi hj e => ?_, fun i x hi => ?_⟩
    · have := hg i x hi
      have := hg j y hj
      omega
    · have := hg i x hi
      show b0 + p ≤ x.1
      omega
  · intro k j i h hk hj ht
    obtain ⟨q, hq, e⟩ := GA_of h
    have h1 := (hc2 q hq).1
    rw [e] at h1
    have h2 : (if Nat.blt k 11 then (List.range (nfl k)).all (fun j => !(Nat.beq (ftp k j) 3) || (fun t => Nat.ble p t && Nat.blt t (p + n) && (TT.getD t (0, 0) == (rtk k j, rti k j i))) (pos (rtk k j) (rti k j i))) else true) = true := h1
    rw [if_pos (show Nat.blt k 11 = true from Nat.ble_eq_true_of_le hk)] at h2
    have h3 := List.all_eq_true.mp h2 j (List.mem_range.mpr hj)
    rw [ht] at h3
    have h4 : (Nat.ble p (pos (rtk k j) (rti k j i)) && Nat.blt (pos (rtk k j) (rti k j i)) (p + n) && (TT.getD (pos (rtk k j) (rti k j i)) (0, 0) == (rtk k j, rti k j i))) = true := h3
    rw [Bool.and_eq_true_iff, Bool.and_eq_true_iff] at h4
    exact GA_dm (Nat.le_of_ble_eq_true h4.1.1) (Nat.le_of_ble_eq_true h4.1.2) (eq_of_beq h4.2)
  · intro k i j h hk ht hj
    obtain ⟨q, hq, e⟩ := GA_of h
    have h1 := (hc2 q hq).2
    rw [e] at h1
    have h2 : (if Nat.ble 2000 k && Nat.ble 2 (aty k) then (List.range (alen k)).all (fun j => (fun t => Nat.ble p t && Nat.blt t (p + n) && (TT.getD t (0, 0) == (elk k, eli k i j))) (pos (elk k) (eli k i j))) else true) = true := h1
    rw [if_pos (show (Nat.ble 2000 k && Nat.ble 2 (aty k)) = true by rw [Bool.and_eq_true_iff]; exact ⟨Nat.ble_eq_true_of_le hk, Nat.ble_eq_true_of_le ht⟩)] at h2
    have h3 := List.all_eq_true.mp h2 j (List.mem_range.mpr hj)
    have h4 : (Nat.ble p (pos (elk k) (eli k i j)) && Nat.blt (pos (elk k) (eli k i j)) (p + n) && (TT.getD (pos (elk k) (eli k i j)) (0, 0) == (elk k, eli k i j))) = true := h3
    rw [Bool.and_eq_true_iff, Bool.and_eq_true_iff] at h4
    exact GA_dm (Nat.le_of_ble_eq_true h4.1.1) (Nat.le_of_ble_eq_true h4.1.2) (eq_of_beq h4.2)
set_option maxRecDepth 100000 in
theorem clo_0 : clo 48 325 = true := by decide +kernel
set_option maxRecDepth 100000 in
theorem clo_1 : clo 373 325 = true := by decide +kernel
set_option maxRecDepth 100000 in
theorem clo_a : clo 0 699 = true := by decide +kernel
/-- cells of these things -/
def PL (G : XG) (Ω : XO) (l : List (Nat × Nat)) : va_W := l.map (fun x => (ad G x.1 x.2, EE G Ω x.1 x.2))
theorem PL_app (G : XG) (Ω : XO) (l m : List (Nat × Nat)) : PL G Ω (l ++ m) = PL G Ω l ++ PL G Ω m := List.map_append
theorem PL_fm {α : Type} (G : XG) (Ω : XO) (f : α → List (Nat × Nat)) (r : List α) : PL G Ω (r.flatMap f) = r.flatMap (fun v => PL G Ω (f v)) := List.map_flatMap
/-- these things lie side by side from b on -/
def AO (G : XG) (b : Nat) (l : List (Nat × Nat)) : Prop := ∀ (q : Nat) (x : Nat × Nat), l[q]? = some x → ad G x.1 x.2 = b + q
theorem AO.l {G : XG} {b : Nat} {l m : List (Nat × Nat)} (h : AO G b (l ++ m)) : AO G b l := by
  intro q x hx
  exact h q x (by rw [List.getElem?_append_left (List.getElem?_eq_some_iff.mp hx).1]; exact hx)
theorem AO.r {G : XG} {b : Nat} {l m : List (Nat × Nat)} {n b2 : Nat} (h : AO G b (l ++ m)) (hn : l.length = n) (hb : b + n = b2) : AO G b2 m := by
  intro q x hx
  have := h (n + q) x (by rw [List.getElem?_append_right (by omega), show n + q - l.length = q by omega]; exact hx)
  omega
theorem AO.CW {G : XG} {b : Nat} {Ω : XO} {l : List (Nat × Nat)} (h : AO G b l) : CW b (PL G Ω l) := by
  intro q x hx
  unfold PL at hx
  rw [List.getElem?_map] at hx
  cases hl : l[q]? with
  | none => rw [hl] at hx; cases hx
  | some y =>
    rw [hl] at hx
    cases hx
    exact h q y hl
theorem AO.fm {G : XG} {F : Nat → List (Nat × Nat)} {m : Nat} (hm : ∀ v, (F v).length = m) : ∀ {n b : Nat}, AO G b ((List.range n).flatMap F) → ∀ v, v < n → AO G (b + m * v) (F v)
  | 0, b, _, v, hv => absurd hv (Nat.not_lt_zero v)
  | n + 1, b, h, v, hv => by
    rw [fm_succ] at h
    by_cases hvn : v = n
    · subst hvn
      have hl : ∀ n : Nat, ((List.range n).flatMap F).length = m * n := by
        intro n
        induction n with
        | zero => rfl
        | succ n ih => rw [fm_succ, List.length_append, ih, hm, Nat.mul_succ]
      exact h.r (hl v) rfl
    · exact AO.fm hm h.l v (by omega)
theorem AO.sub {l : Launch} {b0 : Nat} {D : va_G} {C : Nat → ClassId} {T : Nat → Nat} {p n p2 n2 : Nat} {b : Nat} {m : List (Nat × Nat)} (h : AO (GA l b0 D C T p n) b m) : AO (GA l b0 D C T p2 n2) b m := h
theorem AO_TT {l : Launch} {b0 : Nat} {D : va_G} {C : Nat → ClassId} {T : Nat → Nat} {p n : Nat} : AO (GA l b0 D C T p n) b0 TT := by
  intro q x hx
  have hq : q < 699 := by rw [← TT_len]; exact (List.getElem?_eq_some_iff.mp hx).1
  have := pos_TT q hq
  rw [List.getD_eq_getElem?_getD, hx] at this
  show b0 + pos x.1 x.2 = b0 + q
  have h2 : pos x.1 x.2 = q := this
  omega
/-- the cells of G are those of its things -/
theorem pl_PL {l : Launch} {b0 : Nat} {D : va_G} {C : Nat → ClassId} {T : Nat → Nat} {p n : Nat} {Ω : XO} {m : List (Nat × Nat)} (hm : m.length = n) (hA : AO (GA l b0 D C T p n) (b0 + p) m) (hT : ∀ q x, m[q]? = some x → TT.getD (p + q) (0, 0) = x) : pl (GA l b0 D C T p n) Ω = PL (GA l b0 D C T p n) Ω m := by
  apply List.ext_getElem?
  intro i
  by_cases hi : i < n
  · have h1 : m[i]? = some m[i] := List.getElem?_eq_getElem (by omega)
    have e1 : (PL (GA l b0 D C T p n) Ω m)[i]? = some (ad (GA l b0 D C T p n) m[i].1 m[i].2, EE (GA l b0 D C T p n) Ω m[i].1 m[i].2) := by
      unfold PL
      rw [List.getElem?_map, h1]
      rfl
    have h2 : gK b0 (b0 + p + i) = m[i] := by
      show TT.getD (b0 + p + i - b0) (0, 0) = _
      rw [show b0 + p + i - b0 = p + i by omega]
      exact hT i _ h1
    have e2 : (pl (GA l b0 D C T p n) Ω)[i]? = some (b0 + p + i, EE (GA l b0 D C T p n) Ω (gK b0 (b0 + p + i)).1 (gK b0 (b0 + p + i)).2) := by
      show (va_pl (gR (b0 + p) n) _)[i]? = _
      simp only [va_pl, gR, List.getElem?_map, List.getElem?_range hi, Option.map_some]
      rfl
    rw [e1, e2, h2, hA i _ h1]
  · rw [List.getElem?_eq_none (by simp [pl, va_pl, GA, gL, gR]; omega), List.getElem?_eq_none (by simp [PL]; omega)]
/-- two worlds that are alike where it matters -/
def alk (k i : Nat) (Ω Ω' : XO) : Prop := (k < 11 → ∀ j, j < 100 → Ω.1 (100 * k + j) i = Ω'.1 (100 * k + j) i ∧ Ω.2.1 (100 * k + j) i = Ω'.2.1 (100 * k + j) i ∧ Ω.2.2 (100 * k + j) i = Ω'.2.2 (100 * k + j) i) ∧ (2000 ≤ k → Ω.1 k i = Ω'.1 k i ∧ Ω.2.1 k i = Ω'.2.1 k i)
theorem EE_alk {G : XG} {Ω Ω' : XO} {k i : Nat} (h : alk k i Ω Ω') : EE G Ω k i = EE G Ω' k i := by
  by_cases h1 : k < 11
  · rw [EE_o h1, EE_o h1]
    refine congrArg (fun z => Sum.inr (k, z)) (List.map_congr_left fun a ha => ?_)
    have ha2 : a < 100 := Nat.lt_trans (List.mem_range.mp ha) (nfl_lt k h1)
    obtain ⟨h3, h4, h5⟩ := h.1 h1 a ha2
    unfold fv xI xL xR
    rw [h3, h4, h5]
  · by_cases h2 : k < 2000
    · unfold EE
      rw [if_neg h1, if_neg h1, if_pos h2, if_pos h2]
    · rw [EE_a (by omega), EE_a (by omega)]
      unfold xI xL
      rw [(h.2 (by omega)).1, (h.2 (by omega)).2]
theorem PL_alk {G : XG} {Ω Ω' : XO} {l : List (Nat × Nat)} (h : ∀ x ∈ l, alk x.1 x.2 Ω Ω') : PL G Ω l = PL G Ω' l := List.map_congr_left fun x hx => by rw [EE_alk (h x hx)]
/-- the world at first -/
def oA : XO := (fun k i _ => if k = 0 then (if i = 48 then -1 else nI (i % 24)) else if k = 5 then 10 else if k = 101 then 1 else if k = 104 then 1000 else if k = 700 then nI (i % 40) else if k = 709 then -1 else 0, fun _ _ _ => 0, fun _ _ => 48)
theorem EE0 (G : XG) (Ω : XO) (i : Nat) : EE G Ω 0 i = .inr (0, [.int (xI Ω 0 i 0), .ref (ad G 6 i), .int (xI Ω 2 i 0), .int (xI Ω 3 i 0), .int (xI Ω 4 i 0), .int (xI Ω 5 i 0), .int (xI Ω 6 i 0), .ref (ad G 2000 i), .int (xI Ω 8 i 0), .ref (ad G 2001 i), .int (xI Ω 10 i 0), .int (xI Ω 11 i 0), .int (xI Ω 12 i 0), .int (xI Ω 13 i 0), .int (xI Ω 14 i 0), .int (xI Ω 15 i 0), .int (xI Ω 16 i 0), .long (xL Ω 17 i 0)]) := rfl
theorem EE6 (G : XG) (Ω : XO) (i : Nat) : EE G Ω 6 i = .inr (6, [.ref (ad G 2011 i), .ref (ad G 2012 i), .ref (ad G 2013 i), .ref (ad G 2014 i), .int (xI Ω 604 i 0), .long (xL Ω 605 i 0)]) := rfl
theorem EE3 (G : XG) (Ω : XO) (i : Nat) : EE G Ω 3 i = .inr (3, [.ref (ad G 2005 i), .int (xI Ω 301 i 0), .ref (ad G 2006 i), .int (xI Ω 303 i 0), .int (xI Ω 304 i 0), .int (xI Ω 305 i 0), .int (xI Ω 306 i 0), .int (xI Ω 307 i 0), .int (xI Ω 308 i 0), .int (xI Ω 309 i 0), .int (xI Ω 310 i 0), .ref (ad G 6 (49 + i)), .int (xI Ω 312 i 0), .int (xI Ω 313 i 0)]) := rfl
theorem EE9 (G : XG) (Ω : XO) (i : Nat) : EE G Ω 9 i = .inr (9, [.int (xI Ω 900 i 0), .int (xI Ω 901 i 0), .int (xI Ω 902 i 0), .int (xI Ω 903 i 0)]) := rfl
theorem EE8 (G : XG) (Ω : XO) (i : Nat) : EE G Ω 8 i = .inr (8, [.ref (ad G 2015 i), .int (xI Ω 801 i 0), .int (xI Ω 802 i 0)]) := rfl
theorem EE2 (G : XG) (Ω : XO) (i : Nat) : EE G Ω 2 i = .inr (2, [.ref (ad G 2004 i), .int (xI Ω 201 i 0)]) := rfl
theorem EE4 (G : XG) (Ω : XO) (i : Nat) : EE G Ω 4 i = .inr (4, [.ref (ad G 5 i), .ref (ad G 2007 i), .ref (ad G 0 48), .ref (ad G 0 (xR Ω 403 i)), .ref (ad G 6 (xR Ω 404 i)), .int (xI Ω 405 i 0), .int (xI Ω 406 i 0), .int (xI Ω 407 i 0), .int (xI Ω 408 i 0)]) := rfl
theorem EE5 (G : XG) (Ω : XO) (i : Nat) : EE G Ω 5 i = .inr (5, [.ref (ad G 2008 i), .ref (ad G 2009 i), .ref (ad G 2010 i)]) := rfl
theorem EE7 (G : XG) (Ω : XO) (i : Nat) : EE G Ω 7 i = .inr (7, [.int (xI Ω 700 i 0), .int (xI Ω 701 i 0), .int (xI Ω 702 i 0), .int (xI Ω 703 i 0), .int (xI Ω 704 i 0), .int (xI Ω 705 i 0), .int (xI Ω 706 i 0), .int (xI Ω 707 i 0), .int (xI Ω 708 i 0), .int (xI Ω 709 i 0), .int (xI Ω 710 i 0), .int (xI Ω 711 i 0), .int (xI Ω 712 i 0)]) := rfl
theorem EE1 (G : XG) (Ω : XO) (i : Nat) : EE G Ω 1 i = .inr (1, [.ref (ad G 2002 i), .int (xI Ω 101 i 0), .ref (ad G 2003 i), .int (xI Ω 103 i 0), .int (xI Ω 104 i 0), .ref (ad G 2 i)]) := rfl
theorem EE10 (G : XG) (Ω : XO) (i : Nat) : EE G Ω 10 i = .inr (10, [.ref (ad G 5 i), .ref (ad G 4 i), .ref (ad G 2016 i)]) := rfl
theorem PL1 (G : XG) (Ω : XO) (k i b : Nat) (e : va_E) (h : AO G b [(k, i)]) (he : EE G Ω k i = e) : PL G Ω [(k, i)] = [(b, e)] := by
  have h0 := h 0 _ rfl
  show [(ad G k i, EE G Ω k i)] = _
  rw [he]
  show [(ad G (k, i).1 (k, i).2, e)] = _
  rw [h0]
  rfl
theorem AO.z {G : XG} {b k i : Nat} (h : AO G b [(k, i)]) : ad G k i = b := h 0 _ rfl
theorem pw6 {G : XG} {b i : Nat} (h : AO G b (tSt i)) : PL G oA (tSt i) = wY6 (gC G) b := by
  have h0 : ad G 6 i = b := h 0 _ rfl
  have h1 : ad G 2011 i = b + 1 := h 1 _ rfl
  have h2 : ad G 2012 i = b + 2 := h 2 _ rfl
  have h3 : ad G 2013 i = b + 3 := h 3 _ rfl
  have h4 : ad G 2014 i = b + 4 := h 4 _ rfl
  show [(ad G 6 i, EE G oA 6 i), (ad G 2011 i, EE G oA 2011 i), (ad G 2012 i, EE G oA 2012 i), (ad G 2013 i, EE G oA 2013 i), (ad G 2014 i, EE G oA 2014 i)] = _
  rw [EE6, h0, h1, h2, h3, h4]
  rfl
theorem pw0 {G : XG} {b i : Nat} {x : Int32} (h : AO G b (tBl i)) (hx : (if i = 48 then -1 else nI (i % 24)) = x) : PL G oA (tBl i) = wY0 (gC G) b x := by
  unfold tBl at h ⊢
  have h3 : ad G 2001 i = b + 7 := (h.r (n := 7) rfl rfl).z
  have h2 : ad G 2000 i = b + 6 := (h.l.r (n := 6) rfl rfl).z
  have h1 := h.l.l.r (n := 1) rfl rfl
  have h0 : ad G 0 i = b := h.l.l.l.z
  have h6 : ad G 6 i = b + 1 := h1 0 _ rfl
  rw [PL_app, PL_app, PL_app, pw6 h1]
  show [(ad G 0 i, EE G oA 0 i)] ++ _ ++ [(ad G 2000 i, EE G oA 2000 i)] ++ [(ad G 2001 i, EE G oA 2001 i)] = _
  rw [EE0, h0, h6, h2, h3, show xI oA 0 i 0 = x from hx]
  rfl
theorem pw3 {G : XG} {b i : Nat} (h : AO G b (tFr i)) : PL G oA (tFr i) = wY3 (gC G) b := by
  unfold tFr at h ⊢
  have h3 := h.r (n := 3) rfl rfl
  have h2 : ad G 2006 i = b + 2 := (h.l.r (n := 2) rfl rfl).z
  have h1 : ad G 2005 i = b + 1 := (h.l.l.r (n := 1) rfl rfl).z
  have h0 : ad G 3 i = b := h.l.l.l.z
  have h6 : ad G 6 (49 + i) = b + 3 := h3 0 _ rfl
  rw [PL_app, PL_app, PL_app, pw6 h3]
  show [(ad G 3 i, EE G oA 3 i)] ++ [(ad G 2005 i, EE G oA 2005 i)] ++ [(ad G 2006 i, EE G oA 2006 i)] ++ _ = _
  rw [EE3, h0, h6, h2, h1]
  rfl
theorem pw5 {G : XG} {b : Nat} (h : AO G b tPr) : PL G oA tPr = wY5 (gC G) b := by
  have h0 : ad G 5 0 = b := h 0 _ rfl
  have h1 : ad G 2008 0 = b + 1 := h 1 _ rfl
  have h2 : ad G 2009 0 = b + 2 := h 2 _ rfl
  have h3 : ad G 2010 0 = b + 3 := h 3 _ rfl
  show [(ad G 5 0, EE G oA 5 0), (ad G 2008 0, EE G oA 2008 0), (ad G 2009 0, EE G oA 2009 0), (ad G 2010 0, EE G oA 2010 0)] = _
  rw [EE5, h0, h1, h2, h3]
  rfl
theorem pw9 {G : XG} {b i : Nat} (h : AO G b [(9, i)]) : PL G oA [(9, i)] = wY9 (gC G) b := by
  have h0 := h.z
  show [(ad G 9 i, EE G oA 9 i)] = _
  rw [EE9, h0]
  rfl
theorem pw7 {G : XG} {b i : Nat} {x : Int32} (h : AO G b [(7, i)]) (hx : nI (i % 40) = x) : PL G oA [(7, i)] = wY7 (gC G) b x := by
  have h0 := h.z
  show [(ad G 7 i, EE G oA 7 i)] = _
  rw [EE7, h0, show xI oA 700 i 0 = x from hx]
  rfl
theorem fm_cg {α β : Type} {r : List α} {f g : α → List β} (h : ∀ v ∈ r, f v = g v) : r.flatMap f = r.flatMap g := by
  induction r with
  | nil => rfl
  | cons a r ih => rw [List.flatMap_cons, List.flatMap_cons, h a List.mem_cons_self, ih (fun v hv => h v (List.mem_cons_of_mem a hv))]
/-- a row of references, cell for cell -/
def ra (G : XG) (t n : Nat) (f : Nat → Nat) : va_E := .inl (gC G t, n, .inr (.inr (.inr (.inr (fun j => some (f j))))))
/-- cells that say the same -/
def ceq (P Q : va_W) : Prop := P.length = Q.length ∧ ∀ (q : Nat) (x y : Nat × va_E), P[q]? = some x → Q[q]? = some y → x.1 = y.1 ∧ (x.2 = y.2 ∨ ∃ (cA : ClassId) (n : Nat) (f g : Nat → Option Nat), x.2 = .inl (cA, n, .inr (.inr (.inr (.inr f)))) ∧ y.2 = .inl (cA, n, .inr (.inr (.inr (.inr g)))) ∧ ∀ j, j < n → f j = g j)
theorem ceq.rf (P : va_W) : ceq P P := ⟨rfl, fun q x y h1 h2 => by rw [h1] at h2; cases h2; exact ⟨rfl, Or.inl rfl⟩⟩
theorem ceq.eq {P Q : va_W} (h : P = Q) : ceq P Q := h ▸ ceq.rf P
theorem ceq.app {P Q P2 Q2 : va_W} (h : ceq P Q) (h2 : ceq P2 Q2) : ceq (P ++ P2) (Q ++ Q2) := by
  refine ⟨by rw [List.length_append, List.length_append, h.1, h2.1], fun q x y hx hy => ?_⟩
  by_cases hl : q < P.length
  · rw [List.getElem?_append_left hl] at hx
    rw [List.getElem?_append_left (by rw [← h.1]; exact hl)] at hy
    exact h.2 q x y hx hy
  · rw [List.getElem?_append_right (by omega)] at hx
    rw [List.getElem?_append_right (by rw [← h.1]; omega), ← h.1] at hy
    exact h2.2 _ x y hx hy
theorem ceq.fm {F F2 : Nat → va_W} : ∀ n : Nat, (∀ v, v < n → ceq (F v) (F2 v)) → ceq ((List.range n).flatMap F) ((List.range n).flatMap F2)
  | 0, _ => ceq.rf _
  | n + 1, h => by
    rw [fm_succ, fm_succ]
    exact (ceq.fm n (fun v hv => h v (by omega))).app (h n (Nat.lt_succ_self n))
theorem ceq.row {G : XG} {b t n : Nat} {f g : Nat → Nat} (h : ∀ j, j < n → f j = g j) : ceq [(b, ra G t n f)] [(b, ra G t n g)] := by
  refine ⟨rfl, fun q x y hx hy => ?_⟩
  have hq : q < 1 := (List.getElem?_eq_some_iff.mp hx).1
  rw [show q = 0 by omega] at hx hy
  cases hx
  cases hy
  exact ⟨rfl, Or.inr ⟨_, _, _, _, rfl, rfl, fun j hj => by rw [h j hj]⟩⟩
theorem ceq.P {D : va_G} {P Q : va_W} {H : Heap} (h : ceq P Q) (hP : va_P D vwCl P H) : va_P D vwCl Q H := by
  intro q y hy
  have hq : q < P.length := by rw [h.1]; exact (List.getElem?_eq_some_iff.mp hy).1
  have hx : P[q]? = some P[q] := List.getElem?_eq_getElem hq
  obtain ⟨h1, h2⟩ := h.2 q _ y hx hy
  have h3 := hP q _ hx
  rcases h2 with h2 | ⟨cA, n, f, g, e1, e2, e3⟩
  · have : P[q] = y := Prod.ext h1 h2
    rw [← this]
    exact h3
  · have h5 : vp_cell cA (n, .inr (.inr (.inr (.inr f)))) = vp_cell cA (n, .inr (.inr (.inr (.inr g)))) := by
      rw [vp_cell_q, vp_cell_q]
      unfold arrV
      congr 1
      congr 1
      funext j
      exact congrArg va_rf (e3 j.val j.isLt)
    obtain ⟨y1, y2⟩ := y
    dsimp only at h1 e2
    subst e2
    have h4 : va_at D vwCl (P[q].1, P[q].2) H := h3
    rw [e1] at h4
    show H[y1]? = some (vp_cell cA (n, .inr (.inr (.inr (.inr g)))))
    rw [← h1, ← h5]
    exact h4
theorem YW.ceq {G : XG} {B : XB} {nL pc : Nat} {lv : List (Nat × Value)} {st : List Value} {P P2 : va_W} {cu su : Nat} (h : ceq P P2) (hC : CW (gb G) P2) (k : YW G B nL pc lv st P2 cu su) : YW G B nL pc lv st P cu su := by
  obtain ⟨p, e, R, s, m, args, below, meth, c, Q⟩ := B
  intro H locs ls hz hn _ hP hS hl
  exact k H locs ls (by rw [← h.1]; exact hz) (by rw [← h.1]; exact hn) hC (h.P hP) hS hl
