theorem ph_301 {b d blk i : Nat} (hi : i < d) : ph b b d blk 301 i 0 = some (2148, i) := by
  unfold ph
  simp only [Nat.reduceEqDiff, if_false, if_true, hi, and_self]
theorem ph_303 {b d blk i : Nat} (hi : i < d) : ph b b d blk 303 i 0 = some (2150, i) := by
  unfold ph
  simp only [Nat.reduceEqDiff, if_false, if_true, hi, and_self]
theorem ph_304 {b d blk i : Nat} (hi : i < d) : ph b b d blk 304 i 0 = some (2140, i) := by
  unfold ph
  simp only [Nat.reduceEqDiff, if_false, if_true, hi, and_self]
theorem ph_305 {b d blk i : Nat} (hi : i < d) : ph b b d blk 305 i 0 = some (2141, i) := by
  unfold ph
  simp only [Nat.reduceEqDiff, if_false, if_true, hi, and_self]
theorem ph_306 {b d blk i : Nat} (hi : i < d) : ph b b d blk 306 i 0 = some (2142, i) := by
  unfold ph
  simp only [Nat.reduceEqDiff, if_false, if_true, hi, and_self]
theorem ph_307 {b d blk i : Nat} (hi : i < d) : ph b b d blk 307 i 0 = some (2143, i) := by
  unfold ph
  simp only [Nat.reduceEqDiff, if_false, if_true, hi, and_self]
theorem ph_308 {b d blk i : Nat} (hi : i < d) : ph b b d blk 308 i 0 = some (2145, i) := by
  unfold ph
  simp only [Nat.reduceEqDiff, if_false, if_true, hi, and_self]
theorem ph_309 {b d blk i : Nat} (hi : i < d) : ph b b d blk 309 i 0 = some (2146, i) := by
  unfold ph
  simp only [Nat.reduceEqDiff, if_false, if_true, hi, and_self]
theorem ph_312 {b d blk i : Nat} (hi : i < d) : ph b b d blk 312 i 0 = some (2152, i) := by
  unfold ph
  simp only [Nat.reduceEqDiff, if_false, if_true, hi, and_self]
theorem ph_313 {b d blk i : Nat} (hi : i < d) : ph b b d blk 313 i 0 = some (2151, i) := by
  unfold ph
  simp only [Nat.reduceEqDiff, if_false, if_true, hi, and_self]
theorem ph_2011 {b d blk j : Nat} (hj : j < 16) : ph b b d blk 2011 b j = some (2101, j) := by
  unfold ph
  simp only [Nat.reduceEqDiff, if_false, if_true, hj, and_self]
theorem phs_2011 {b d blk i j : Nat} (hb : b ≤ 48) (hi : i < d) (hj : j < 16) : ph b b d blk 2011 (49 + i) j = some (2102, 120 * i + j) := by
  unfold ph
  have e1 : ¬ (49 + i = b) := by omega
  have e2 : 49 + i < 49 + d := by omega
  have e3 : 49 + i - 49 = i := by omega
  simp only [Nat.reduceEqDiff, if_false, if_true, hj, e1, false_and, e2, and_self, Nat.le_add_right, e3]
theorem ph_2012 {b d blk j : Nat} (hj : j < 16) : ph b b d blk 2012 b j = some (2101, 16 + j) := by
  unfold ph
  simp only [Nat.reduceEqDiff, if_false, if_true, hj, and_self]
theorem phs_2012 {b d blk i j : Nat} (hb : b ≤ 48) (hi : i < d) (hj : j < 16) : ph b b d blk 2012 (49 + i) j = some (2102, 120 * i + (16 + j)) := by
  unfold ph
  have e1 : ¬ (49 + i = b) := by omega
  have e2 : 49 + i < 49 + d := by omega
  have e3 : 49 + i - 49 = i := by omega
  simp only [Nat.reduceEqDiff, if_false, if_true, hj, e1, false_and, e2, and_self, Nat.le_add_right, e3]
theorem ph_2013 {b d blk j : Nat} (hj : j < 16) : ph b b d blk 2013 b j = some (2101, 32 + j) := by
  unfold ph
  simp only [Nat.reduceEqDiff, if_false, if_true, hj, and_self]
theorem phs_2013 {b d blk i j : Nat} (hb : b ≤ 48) (hi : i < d) (hj : j < 16) : ph b b d blk 2013 (49 + i) j = some (2102, 120 * i + (32 + j)) := by
  unfold ph
  have e1 : ¬ (49 + i = b) := by omega
  have e2 : 49 + i < 49 + d := by omega
  have e3 : 49 + i - 49 = i := by omega
  simp only [Nat.reduceEqDiff, if_false, if_true, hj, e1, false_and, e2, and_self, Nat.le_add_right, e3]
theorem ph_2014 {b d blk j : Nat} (hj : j < 64) : ph b b d blk 2014 b j = some (2101, 48 + j) := by
  unfold ph
  simp only [Nat.reduceEqDiff, if_false, if_true, hj, and_self]
theorem phs_2014 {b d blk i j : Nat} (hb : b ≤ 48) (hi : i < d) (hj : j < 64) : ph b b d blk 2014 (49 + i) j = some (2102, 120 * i + (48 + j)) := by
  unfold ph
  have e1 : ¬ (49 + i = b) := by omega
  have e2 : 49 + i < 49 + d := by omega
  have e3 : 49 + i - 49 = i := by omega
  simp only [Nat.reduceEqDiff, if_false, if_true, hj, e1, false_and, e2, and_self, Nat.le_add_right, e3]
theorem ph_604 {b d blk : Nat} : ph b b d blk 604 b 0 = some (2101, 112) := by
  unfold ph
  simp only [Nat.reduceEqDiff, if_false, if_true, and_self]
theorem phs_604 {b d blk i : Nat} (hb : b ≤ 48) (hi : i < d) : ph b b d blk 604 (49 + i) 0 = some (2102, 120 * i + 112) := by
  unfold ph
  have e1 : ¬ (49 + i = b) := by omega
  have e2 : 49 + i < 49 + d := by omega
  have e3 : 49 + i - 49 = i := by omega
  simp only [Nat.reduceEqDiff, if_false, if_true, e1, false_and, e2, and_self, Nat.le_add_right, e3]
theorem ph_2006 {b d blk i j : Nat} (hi : i < d) (hj : j < 16) : ph b b d blk 2006 i j = some (2149, 16 * i + j) := by
  unfold ph
  simp only [Nat.reduceEqDiff, if_false, if_true, hi, hj, and_self]
theorem ph_10 {b d blk : Nat} : ph b b d blk 10 b 0 = some (2130, blk) := by
  unfold ph
  simp only [Nat.reduceEqDiff, if_false, if_true, and_self]
theorem ph_406 {b d blk : Nat} : ph b b d blk 406 0 0 = some (1154, 0) := by
  unfold ph
  simp only [Nat.reduceEqDiff, if_false, if_true, and_self]
theorem ph_2008 {b d blk j : Nat} (hj : j < 160) : ph b b d blk 2008 0 j = some (2103, j) := by
  unfold ph
  simp only [Nat.reduceEqDiff, if_false, if_true, hj, and_self]
theorem ph_2009 {b d blk j : Nat} (hj : j < 160) : ph b b d blk 2009 0 j = some (2104, j) := by
  unfold ph
  simp only [Nat.reduceEqDiff, if_false, if_true, hj, and_self]
theorem ph_2010 {b d blk j : Nat} (hj : j < 8) : ph b b d blk 2010 0 j = some (2105, j) := by
  unfold ph
  simp only [Nat.reduceEqDiff, if_false, if_true, hj, and_self]
theorem phn_2005 {b d blk i j : Nat} : ph b b d blk 2005 i j = none := by
  unfold ph
  simp only [Nat.reduceEqDiff, if_false]
theorem phn_2001 {b d blk i j : Nat} : ph b b d blk 2001 i j = none := by
  unfold ph
  simp only [Nat.reduceEqDiff, if_false]
theorem phn_405 {b d blk i j : Nat} : ph b b d blk 405 i j = none := by
  unfold ph
  simp only [Nat.reduceEqDiff, if_false]
theorem phn_407 {b d blk i j : Nat} : ph b b d blk 407 i j = none := by
  unfold ph
  simp only [Nat.reduceEqDiff, if_false]
theorem phn_408 {b d blk i j : Nat} : ph b b d blk 408 i j = none := by
  unfold ph
  simp only [Nat.reduceEqDiff, if_false]
theorem qhn_2147 {b d blk j : Nat} : (qh b b 2147 j).1 = 310 ∨ ph b b d blk (qh b b 2147 j).1 (qh b b 2147 j).2.1 (qh b b 2147 j).2.2 = none := by
  unfold qh ph
  simp only [Nat.reduceEqDiff, if_false, or_true]
theorem qhn_2132 {b d blk j : Nat} : (qh b b 2132 j).1 = 310 ∨ ph b b d blk (qh b b 2132 j).1 (qh b b 2132 j).2.1 (qh b b 2132 j).2.2 = none := by
  unfold qh ph
  simp only [Nat.reduceEqDiff, if_false, or_true]
theorem qhn_1153 {b d blk j : Nat} : (qh b b 1153 j).1 = 310 ∨ ph b b d blk (qh b b 1153 j).1 (qh b b 1153 j).2.1 (qh b b 1153 j).2.2 = none := by
  unfold qh ph
  simp only [Nat.reduceEqDiff, if_false, or_true]
theorem qhn_1155 {b d blk j : Nat} : (qh b b 1155 j).1 = 310 ∨ ph b b d blk (qh b b 1155 j).1 (qh b b 1155 j).2.1 (qh b b 1155 j).2.2 = none := by
  unfold qh ph
  simp only [Nat.reduceEqDiff, if_false, or_true]
theorem qhn_1156 {b d blk j : Nat} : (qh b b 1156 j).1 = 310 ∨ ph b b d blk (qh b b 1156 j).1 (qh b b 1156 j).2.1 (qh b b 1156 j).2.2 = none := by
  unfold qh ph
  simp only [Nat.reduceEqDiff, if_false, or_true]
theorem qhn_2144 {b d blk j : Nat} : (qh b b 2144 j).1 = 310 ∨ ph b b d blk (qh b b 2144 j).1 (qh b b 2144 j).2.1 (qh b b 2144 j).2.2 = none := by
  unfold qh
  simp only [Nat.reduceEqDiff, if_false, if_true, true_or]
theorem sumN_mem {f : Nat → Nat} {k : Nat} : ∀ {n : Nat}, k < n → f k ≤ sumN f n := by
  intro n
  induction n with
  | zero => intro h; exact absurd h (by omega)
  | succ n ih =>
    intro h
    show f k ≤ sumN f n + f n
    by_cases z : k = n
    · rw [z]; omega
    · have := ih (by omega)
      omega
theorem sumN_cg {f g : Nat → Nat} : ∀ n, (∀ i, i < n → f i = g i) → sumN f n = sumN g n := by
  intro n
  induction n with
  | zero => intro _; rfl
  | succ n ih =>
    intro h
    show sumN f n + f n = sumN g n + g n
    rw [ih (fun i hi => h i (by omega)), h n (by omega)]
theorem sumN_upd {f : Nat → Nat} {k v : Nat} : ∀ n, k < n → sumN (fun i => if i = k then v else f i) n + f k = sumN f n + v := by
  intro n
  induction n with
  | zero => intro h; exact absurd h (by omega)
  | succ n ih =>
    intro h
    show sumN (fun i => if i = k then v else f i) n + (if n = k then v else f n) + f k = sumN f n + f n + v
    by_cases z : n = k
    · have e : sumN (fun i => if i = k then v else f i) n = sumN f n := sumN_cg n (fun i hi => if_neg (by omega))
      rw [e, if_pos z, z]
      omega
    · rw [if_neg z]
      have := ih (by omega)
      omega
theorem sCS_cg {P : XP} {q : Nat} {M M' : XO} (m : agI 2101 M M') (h : sCS P q M) : sCS P q M' := by
  unfold agI at m
  unfold sCS at h ⊢
  simp only [m]
  exact h
theorem stOK.low {f : Nat → Int32} {T N q q' : Nat} (h : stOK f T N q) (hq : q' ≤ q) : stOK f T N q' := by
  obtain ⟨u, h1, h2, h3, h4⟩ := h
  exact ⟨u, h1, h2, fun a ha => ⟨by have := (h3 a ha).1; omega, (h3 a ha).2⟩, h4⟩
theorem MS.low {P : XP} {d e q s q' : Nat} {C M : XO} (h : MS P d e q s C M) (hq : q' ≤ q) : MS P d e q' s C M := by
  refine ⟨h.1.stLow (fun _ _ _ _ => rfl) (fun _ _ _ => rfl) (fun _ _ _ _ => rfl) (fun _ _ _ => rfl) (fun _ _ => rfl) (fun i hi => (h.1.SN i hi).low hq) ⟨?_, fun i hi => ?_⟩ ⟨?_, fun i hi => ?_⟩, h.2.low hq⟩
  · obtain ⟨n, h1, h2⟩ := h.1.EC.1
    exact ⟨n, h1, by omega⟩
  · obtain ⟨n, h1, h2⟩ := h.1.EC.2 i hi
    exact ⟨n, h1, by omega⟩
  · obtain ⟨n, h1, h2⟩ := h.1.RB.1
    exact ⟨n, h1, by omega⟩
  · obtain ⟨n, h1, h2⟩ := h.1.RB.2 i hi
    exact ⟨n, h1, by omega⟩
theorem fr5 {P : XP} {d e q s : Nat} {C M : XO} (h : MS0 P d e q s C M) {f : Nat} (hf : f < d) : f < 4 ∧ inB (nI f) 5 ∧ (nI f).toNatClampNeg = f := by
  have hd := h.ST.2.2.2.2
  exact ⟨by omega, inB_nI (by omega) (by decide), cl_nI (by omega)⟩
theorem MS.push {P : XP} {d e q s : Nat} {C M : XO} (h : MS P d e q s C M) {f n v : Nat} (hf : f < d) (hn : xI C 301 f 0 = nI n) (hn2 : n < 16) (hv : v < 1000000) : fX3_push C f (nI v) = uI (uI C 2005 f n (nI v)) 301 f 0 (nI (n + 1)) ∧ fX11_push M (nI f) (nI v) = some (uI (uI M 2147 0 (16 * f + n) (nI v)) 2148 0 f (nI (n + 1))) ∧ MS P d e q s (uI (uI C 2005 f n (nI v)) 301 f 0 (nI (n + 1))) (uI (uI M 2147 0 (16 * f + n) (nI v)) 2148 0 f (nI (n + 1))) := by
  have hb := h.1.ZP.1
  obtain ⟨f4, f1, f2⟩ := fr5 h.1 hf
  have hm : xI M 2148 0 f = nI n := by rw [← hn]; exact (h.1.LN 301 f 0 _ (by decide) (ph_301 hf)).symm
  have hin : inB (nI (16 * f + n)) 80 := inB_nI (by omega) (by decide)
  have hcl : (nI (16 * f + n)).toNatClampNeg = 16 * f + n := cl_nI (by omega)
  refine ⟨?_, ?_, ?_⟩
  · unfold fX3_push
    have w1 : xI (uI C 2005 f n (nI v)) 301 f 0 = nI n := by rw [I_ne (by decide), hn]
    rw [hn, if_neg (nI_nlt0 (by omega)), if_neg (show ¬ nI (alen 2005) ≤ nI n from nI_ge (b := 16) hn2 (by decide)), cl_nI (by omega), w1, nI_1]
  · unfold fX11_push wl
    dsimp only
    have w1 : xI (uI M 2147 0 (16 * f + n) (nI v)) 2148 0 f = nI n := by rw [I_ne (by decide), hm]
    rw [if_pos f1, f2, hm, show (16 : Int32) = nI 16 from rfl, nI_mul, nI_add, if_pos hin, hcl, if_pos f1, if_pos f1, w1, nI_1]
  · have c1 : ∀ i, xI (uI (uI C 2005 f n (nI v)) 301 f 0 (nI (n + 1))) 301 i 0 = if i = f then nI (n + 1) else xI C 301 i 0 := fun i => by
      rw [I_uI]
      by_cases z : i = f
      · rw [if_pos ⟨rfl, z, rfl⟩, if_pos z]
      · rw [if_neg (fun y => z y.2.1), if_neg z, I_ne (by decide)]
    have c2 : ∀ i j, xI (uI (uI C 2005 f n (nI v)) 301 f 0 (nI (n + 1))) 2005 i j = if i = f ∧ j = n then nI v else xI C 2005 i j := fun i j => by
      rw [I_ne (by decide), I_uI]
      by_cases z : i = f ∧ j = n
      · rw [if_pos ⟨rfl, z.1, z.2⟩, if_pos z]
      · rw [if_neg (fun y => z y.2), if_neg z]
    have c3 : ∀ j, xI (uI (uI M 2147 0 (16 * f + n) (nI v)) 2148 0 f (nI (n + 1))) 2147 0 j = if j = 16 * f + n then nI v else xI M 2147 0 j := fun j => by
      rw [I_ne (by decide), I_uI]
      by_cases z : j = 16 * f + n
      · rw [if_pos ⟨rfl, rfl, z⟩, if_pos z]
      · rw [if_neg (fun y => z y.2.2), if_neg z]
    have c4 : ∀ i, xI (uI (uI M 2147 0 (16 * f + n) (nI v)) 2148 0 f (nI (n + 1))) 2148 0 i = if i = f then nI (n + 1) else xI M 2148 0 i := fun i => by
      rw [I_uI]
      by_cases z : i = f
      · rw [if_pos ⟨rfl, rfl, z⟩, if_pos z]
      · rw [if_neg (fun y => z y.2.2), if_neg z, I_ne (by decide)]
    refine ⟨h.1.stHeap (fun k hk i j => ?_) (fun k i j => by rw [L_uI, L_uI]) (fun k hk i j => ?_) (fun k i j => by rw [L_uI, L_uI]) (fun _ _ => rfl) ?_ ?_ ?_ (sFA_up (sFA_up h.1.FA (M' := M) rfl _) rfl _) (sFB_up (sFB_up h.1.FB (C' := C) rfl _) rfl _), sCS_cg (fun i j => by rw [I_ne (by decide), I_ne (by decide)]) h.2⟩
    · obtain ⟨a1, hk⟩ := nc_ne hk
      obtain ⟨a2, -⟩ := nc_ne hk
      rw [I_ne a2, I_ne a1]
    · obtain ⟨a1, hk⟩ := nc_ne hk
      obtain ⟨a2, -⟩ := nc_ne hk
      rw [I_ne a2, I_ne a1]
    · exact ((LN.upc h.1.LN (Or.inr phn_2005) _).upm hb qhn_2147 _).up hb (ph_301 hf) _
    · intro i hi j hj hj2
      rw [c1] at hj2
      rw [c2, c3]
      by_cases z : i = f
      · rw [if_pos z, ti_nI (by omega)] at hj2
        by_cases z2 : j = n
        · rw [if_pos ⟨z, z2⟩, if_pos (by omega)]
        · rw [if_neg (fun y => z2 y.2), if_neg (by omega)]
          exact h.1.HP i hi j hj (by rw [z, hn, ti_nI (by omega)]; omega)
      · rw [if_neg z] at hj2
        rw [if_neg (fun y => z y.1), if_neg (by omega)]
        exact h.1.HP i hi j hj hj2
    · intro i hi
      rw [c4]
      by_cases z : i = f
      · rw [if_pos z]
        refine ⟨n + 1, by omega, rfl, fun j hj => ?_⟩
        rw [c3]
        by_cases z2 : j = n
        · rw [if_pos (by omega)]
          exact ⟨v, hv, rfl⟩
        · rw [if_neg (by omega)]
          obtain ⟨n', g1, g2, g3⟩ := h.1.HS i hi
          rw [z, hm] at g2
          have : n = n' := (nI_eq (by omega) (by omega)).mp g2
          exact g3 j (by omega)
      · rw [if_neg z]
        obtain ⟨n', g1, g2, g3⟩ := h.1.HS i hi
        refine ⟨n', g1, g2, fun j hj => ?_⟩
        rw [c3, if_neg (by omega)]
        exact g3 j hj
/-- what lies on top -/
theorem MS.top {P : XP} {d e q s : Nat} {C M : XO} (h : MS P d e q s C M) {f n : Nat} (hf : f < d) (hn : xI C 301 f 0 = nI (n + 1)) (hn2 : n ≤ 16) : n < 16 ∧ ∃ v, v < 1000000 ∧ xI C 2005 f n = nI v ∧ xI M 2147 0 (16 * f + n) = nI v := by
  obtain ⟨n', g1, g2, g3⟩ := h.1.HS f hf
  obtain ⟨f4, -, -⟩ := fr5 h.1 hf
  rw [← h.1.LN 301 f 0 _ (by decide) (ph_301 hf), hn] at g2
  have hz : n + 1 = n' := (nI_eq (by omega) (by omega)).mp g2
  subst hz
  obtain ⟨v, v1, v2⟩ := g3 n (by omega)
  refine ⟨by omega, v, v1, ?_, v2⟩
  rw [h.1.HP f hf n (by omega) (by rw [hn, ti_nI (by omega)]; omega), v2]
theorem MS.pop {P : XP} {d e q s : Nat} {C M : XO} (h : MS P d e q s C M) {f n : Nat} (hf : f < d) (hn : xI C 301 f 0 = nI (n + 1)) (hn2 : n ≤ 16) : ∃ v, v < 1000000 ∧ xI C 2005 f n = nI v ∧ fX3_take C f = (nI v, uI C 301 f 0 (nI n)) ∧ fX11_pop M (nI f) = some (nI v, uI M 2148 0 f (nI n)) ∧ MS P d e q s (uI C 301 f 0 (nI n)) (uI M 2148 0 f (nI n)) := by
  have hb := h.1.ZP.1
  obtain ⟨f4, f1, f2⟩ := fr5 h.1 hf
  obtain ⟨hn3, v, v1, v2, v3⟩ := h.top hf hn hn2
  have hm : xI M 2148 0 f = nI (n + 1) := by rw [← hn]; exact (h.1.LN 301 f 0 _ (by decide) (ph_301 hf)).symm
  have hin : inB (nI (16 * f + n)) 80 := inB_nI (by omega) (by decide)
  have hcl : (nI (16 * f + n)).toNatClampNeg = 16 * f + n := cl_nI (by omega)
  refine ⟨v, v1, v2, ?_, ?_, ?_⟩
  · unfold fX3_take
    have w1 : xI (uI C 301 f 0 (nI n)) 301 f 0 = nI n := by rw [I_uI, if_pos ⟨rfl, rfl, rfl⟩]
    rw [hn, if_neg (nI_nle (by omega) (by omega)), if_pos (show nI (n + 1) ≤ nI (alen 2005) from nI_le (b := 16) (by omega) (by decide)), nI_pred, w1, cl_nI (by omega), I_ne (by decide), v2]
  · unfold fX11_pop wl
    dsimp only
    have w1 : xI (uI M 2148 0 f (nI n)) 2148 0 f = nI n := by rw [I_uI, if_pos ⟨rfl, rfl, rfl⟩]
    rw [if_pos f1, if_pos f1, f2, hm, nI_pred, if_pos f1, w1, show (16 : Int32) = nI 16 from rfl, nI_mul, nI_add, if_pos hin, hcl, I_ne (by decide), v3]
  · have c1 : ∀ i, xI (uI C 301 f 0 (nI n)) 301 i 0 = if i = f then nI n else xI C 301 i 0 := fun i => by
      rw [I_uI]
      by_cases z : i = f
      · rw [if_pos ⟨rfl, z, rfl⟩, if_pos z]
      · rw [if_neg (fun y => z y.2.1), if_neg z]
    have c4 : ∀ i, xI (uI M 2148 0 f (nI n)) 2148 0 i = if i = f then nI n else xI M 2148 0 i := fun i => by
      rw [I_uI]
      by_cases z : i = f
      · rw [if_pos ⟨rfl, rfl, z⟩, if_pos z]
      · rw [if_neg (fun y => z y.2.2), if_neg z]
    refine ⟨h.1.stTake (fun k hk i j => I_ne (nc_ne hk).1) (fun k i j => by rw [L_uI]) (fun k hk i j => I_ne (nc_ne hk).1) (fun k i j => by rw [L_uI]) (fun _ _ => rfl) (h.1.LN.up hb (ph_301 hf) _) ?_ ?_ (sFA_up h.1.FA (M' := M) rfl _) (sFB_up h.1.FB (C' := C) rfl _), sCS_cg (fun i j => I_ne (by decide)) h.2⟩
    · intro i hi j hj hj2
      rw [c1] at hj2
      rw [I_ne (by decide), I_ne (by decide)]
      by_cases z : i = f
      · rw [if_pos z, ti_nI (by omega)] at hj2
        exact h.1.HP i hi j hj (by rw [z, hn, ti_nI (by omega)]; omega)
      · rw [if_neg z] at hj2
        exact h.1.HP i hi j hj hj2
    · intro i hi
      rw [c4]
      by_cases z : i = f
      · rw [if_pos z]
        refine ⟨n, by omega, rfl, fun j hj => ?_⟩
        rw [I_ne (by decide)]
        obtain ⟨n', g1, g2, g3⟩ := h.1.HS i hi
        rw [z, hm] at g2
        have : n + 1 = n' := (nI_eq (by omega) (by omega)).mp g2
        exact g3 j (by omega)
      · rw [if_neg z]
        obtain ⟨n', g1, g2, g3⟩ := h.1.HS i hi
        refine ⟨n', g1, g2, fun j hj => ?_⟩
        rw [I_ne (by decide)]
        exact g3 j hj
/-- where a frame goes on -/
theorem MS.next {P : XP} {d e q s : Nat} {C M : XO} (h : MS P d e q s C M) {f t : Nat} (hf : f < d) (ht : t ≤ 20) : MS P d e q s (uI C 309 f 0 (nI t)) (uI M 2146 0 f (nI t)) := by
  have hb := h.1.ZP.1
  refine ⟨h.1.stNext (fun k hk i j => I_ne (nc_ne hk).1) (fun k i j => by rw [L_uI]) (fun k hk i j => I_ne (nc_ne hk).1) (fun k i j => by rw [L_uI]) (fun _ _ => rfl) (h.1.LN.up hb (ph_309 hf) _) ?_ (sFA_up h.1.FA (M' := M) rfl _) (sFB_up h.1.FB (C' := C) rfl _), sCS_cg (fun i j => I_ne (by decide)) h.2⟩
  intro i hi
  obtain ⟨o, l, v, n, p, t', g, a1, a2, a3, a4, a5, a6, a7, b1, b2, b3, b4, b5, b6, b7⟩ := h.1.FR i hi
  by_cases z : i = f
  · refine ⟨o, l, v, n, p, t, g, a1, a2, a3, a4, a5, ht, a7, ?_, ?_, ?_, ?_, ?_, ?_, ?_⟩
    · rw [I_ne (by decide), b1]
    · rw [I_ne (by decide), b2]
    · rw [I_ne (by decide), b3]
    · rw [I_ne (by decide), b4]
    · rw [I_ne (by decide), b5]
    · rw [I_uI, if_pos ⟨rfl, rfl, z⟩]
    · rw [I_ne (by decide), b7]
  · refine ⟨o, l, v, n, p, t', g, a1, a2, a3, a4, a5, a6, a7, ?_, ?_, ?_, ?_, ?_, ?_, ?_⟩
    · rw [I_ne (by decide), b1]
    · rw [I_ne (by decide), b2]
    · rw [I_ne (by decide), b3]
    · rw [I_ne (by decide), b4]
    · rw [I_ne (by decide), b5]
    · rw [I_uI, if_neg (fun y => z y.2.2), b6]
    · rw [I_ne (by decide), b7]
/-- the highest cell -/
theorem MS.reach {P : XP} {d e q s : Nat} {C M : XO} (h : MS P d e q s C M) {f t : Nat} (hf : f < d) (ht : t ≤ 16) : MS P d e q s (uI C 303 f 0 (nI t - 1)) (uI M 2150 0 f (nI t - 1)) := by
  have hb := h.1.ZP.1
  refine ⟨h.1.stReach (fun k hk i j => I_ne (nc_ne hk).1) (fun k i j => by rw [L_uI]) (fun k hk i j => I_ne (nc_ne hk).1) (fun k i j => by rw [L_uI]) (fun _ _ => rfl) (h.1.LN.up hb (ph_303 hf) _) ?_ (sFA_up h.1.FA (M' := M) rfl _) (sFB_up h.1.FB (C' := C) rfl _), sCS_cg (fun i j => I_ne (by decide)) h.2⟩
  intro i hi
  obtain ⟨o, l, v, n, p, t', g, a1, a2, a3, a4, a5, a6, a7, b1, b2, b3, b4, b5, b6, b7⟩ := h.1.FR i hi
  by_cases z : i = f
  · refine ⟨o, l, v, n, p, t', t, a1, a2, a3, a4, a5, a6, ht, ?_, ?_, ?_, ?_, ?_, ?_, ?_⟩
    · rw [I_ne (by decide), b1]
    · rw [I_ne (by decide), b2]
    · rw [I_ne (by decide), b3]
    · rw [I_ne (by decide), b4]
    · rw [I_ne (by decide), b5]
    · rw [I_ne (by decide), b6]
    · rw [I_uI, if_pos ⟨rfl, rfl, z⟩]
  · refine ⟨o, l, v, n, p, t', g, a1, a2, a3, a4, a5, a6, a7, ?_, ?_, ?_, ?_, ?_, ?_, ?_⟩
    · rw [I_ne (by decide), b1]
    · rw [I_ne (by decide), b2]
    · rw [I_ne (by decide), b3]
    · rw [I_ne (by decide), b4]
    · rw [I_ne (by decide), b5]
    · rw [I_ne (by decide), b6]
    · rw [I_uI, if_neg (fun y => z y.2.2), b7]
/-- a cell of the memory -/
theorem MS.mem {P : XP} {d e q s : Nat} {C M : XO} (h : MS P d e q s C M) {f t v : Nat} (hf : f < d) (ht : t < 16) (hv : v < 1000000) : MS P d e q s (uI C 2006 f t (nI v)) (uI M 2149 0 (16 * f + t) (nI v)) := by
  have hb := h.1.ZP.1
  refine ⟨h.1.stMem (fun k hk i j => I_ne (nc_ne hk).1) (fun k i j => by rw [L_uI]) (fun k hk i j => I_ne (nc_ne hk).1) (fun k i j => by rw [L_uI]) (fun _ _ => rfl) (h.1.LN.up hb (ph_2006 hf ht) _) ?_ (sFA_up h.1.FA (M' := M) rfl _) (sFB_up h.1.FB (C' := C) rfl _), sCS_cg (fun i j => I_ne (by decide)) h.2⟩
  intro i hi j hj
  by_cases z : 16 * i + j = 16 * f + t
  · exact ⟨v, hv, by rw [I_uI, if_pos ⟨rfl, rfl, z⟩]⟩
  · obtain ⟨v', g1, g2⟩ := h.1.MM i hi j hj
    exact ⟨v', g1, by rw [I_uI, if_neg (fun y => z y.2.2), g2]⟩
/-- what is to be given back, and what was paid besides -/
theorem MS.back {P : XP} {d e q s k q' : Nat} {C M : XO} (h : MS P d e q s C M) (hq : q' ≤ q) (hk : k ≤ 3 * (q - q')) : MS P d e q' s (uI C 406 0 0 (xI C 406 0 0 + nI k)) (uI M 1154 0 0 (xI M 1154 0 0 + nI k)) := by
  have hb := h.1.ZP.1
  have h2 := h.low hq
  have e1 : xI C 406 0 0 = xI M 1154 0 0 := h.1.LN 406 0 0 _ (by decide) ph_406
  rw [e1]
  refine ⟨h2.1.stBack (fun k hk i j => I_ne (nc_ne hk).1) (fun k i j => by rw [L_uI]) (fun k hk i j => I_ne (nc_ne hk).1) (fun k i j => by rw [L_uI]) (fun _ _ => rfl) (h.1.LN.up hb ph_406 _) ⟨?_, ?_⟩ (sFA_up h.1.FA (M' := M) rfl _) (sFB_up h.1.FB (C' := C) rfl _), sCS_cg (fun i j => I_ne (by decide)) h2.2⟩
  · obtain ⟨n, n1, n2⟩ := h.1.RB.1
    refine ⟨n + k, ?_, by omega⟩
    rw [I_uI, if_pos ⟨rfl, rfl, rfl⟩, n1, nI_add]
  · intro i hi
    obtain ⟨n, n1, n2⟩ := h2.1.RB.2 i hi
    exact ⟨n, by rw [I_ne (by decide), n1], n2⟩
/-- what a step costs -/
theorem MS.pay {P : XP} {d q s : Nat} {C M : XO} (h : MS P d (d - 1) q s C M) (hd : 0 < d) {g p : Nat} (hg : xI C 310 (d - 1) 0 = nI g) (hp : p ≤ g) (hg2 : g < 2147483648) : p ≤ s ∧ MS P d (d - 1) q (s - p) (uI C 310 (d - 1) 0 (nI (g - p))) (uI M 2144 0 (d - 1) (nI (g - p))) := by
  have hb := h.1.ZP.1
  have hm : xI M 2144 0 (d - 1) = nI g := by rw [h.1.GA (d - 1) (by omega), if_pos rfl, hg]
  obtain ⟨u, u1, u2, u3⟩ := h.1.GS
  have hd4 := h.1.ST.2.2.2.2
  have hu : u (d - 1) = g := by
    have e := u1 (d - 1) (by omega)
    rw [hm] at e
    have hl : u (d - 1) ≤ sumN u d := sumN_mem (by omega)
    exact ((nI_eq (by omega) (by omega)).mp e).symm
  have hl : u (d - 1) ≤ sumN u d := sumN_mem (by omega)
  have hs : sumN (fun i => if i = d - 1 then g - p else u i) d + g = sumN u d + (g - p) := by
    have := sumN_upd (f := u) (k := d - 1) (v := g - p) d (by omega)
    rw [hu] at this
    exact this
  refine ⟨by omega, h.1.stGas (fun k hk i j => I_ne (nc_ne hk).1) (fun k i j => by rw [L_uI]) (fun k hk i j => I_ne (nc_ne hk).1) (fun k i j => by rw [L_uI]) (fun _ _ => rfl) ?_ ⟨fun i => if i = d - 1 then g - p else u i, fun i hi => ?_, by omega, by omega⟩ (sFA_up h.1.FA (M' := M) rfl _) (sFB_up h.1.FB (C' := C) rfl _), sCS_cg (fun i j => I_ne (by decide)) h.2⟩
  · intro i hi
    by_cases z : i = d - 1
    · rw [I_uI, if_pos ⟨rfl, rfl, z⟩, if_pos z, I_uI, if_pos ⟨rfl, z, rfl⟩]
    · rw [I_uI, if_neg (fun y => z y.2.2), h.1.GA i hi, if_neg z, if_neg z, I_uI, if_neg (fun y => z y.2.1)]
  · dsimp only
    by_cases z : i = d - 1
    · rw [I_uI, if_pos ⟨rfl, rfl, z⟩, if_pos z]
    · rw [I_uI, if_neg (fun y => z y.2.2), if_neg z, u1 i hi]
