/-- a state with one place changed -/
def upN (f : Nat → Int32) (a : Nat) (v : Int32) : Nat → Int32 := fun j => if j = a then v else f j
theorem curF (M : XO) (a : Nat) (v : Int32) : (fun j => xI (uI M 2101 0 a v) 2101 0 j) = upN (fun j => xI M 2101 0 j) a v := by
  funext j
  show xI (uI M 2101 0 a v) 2101 0 j = if j = a then v else xI M 2101 0 j
  rw [I_uI]
  by_cases z : j = a
  · rw [if_pos ⟨rfl, rfl, z⟩, if_pos z]
  · rw [if_neg (fun y => z y.2.2), if_neg z]
theorem stOK.coin {f : Nat → Int32} {T N q : Nat} (h : stOK f T N q) {a : Nat} (ha : a < 16) (v : Nat) : ∃ n, f a = nI n ∧ n ≤ T ∧ stOK (upN f a (nI v)) (T - n + v) N q := by
  obtain ⟨u, h1, h2, h3, h4⟩ := h
  have hl : u a ≤ sumN u 16 := sumN_mem ha
  refine ⟨u a, h1 a (by omega), by omega, fun j => if j = a then v else u j, fun j hj => ?_, ?_, fun c hc => ?_, fun j hj => ?_⟩
  · show (if j = a then nI v else f j) = nI (if j = a then v else u j)
    by_cases z : j = a
    · rw [if_pos z, if_pos z]
    · rw [if_neg z, if_neg z, h1 j hj]
  · have := sumN_upd (f := u) (k := a) (v := v) 16 ha
    dsimp only
    rw [if_neg (show ¬ 112 = a by omega)]
    omega
  · dsimp only
    rw [if_neg (show ¬ 16 + c = a by omega), if_neg (show ¬ 32 + c = a by omega)]
    exact h3 c hc
  · dsimp only
    rw [if_neg (show ¬ 48 + j = a by omega)]
    exact h4 j hj
theorem stOK.burn {f : Nat → Int32} {T N q : Nat} (h : stOK f T N q) (v : Nat) : ∃ n, f 112 = nI n ∧ n ≤ T ∧ stOK (upN f 112 (nI v)) (T - n + v) N q := by
  obtain ⟨u, h1, h2, h3, h4⟩ := h
  refine ⟨u 112, h1 112 (by omega), by omega, fun j => if j = 112 then v else u j, fun j hj => ?_, ?_, fun c hc => ?_, fun j hj => ?_⟩
  · show (if j = 112 then nI v else f j) = nI (if j = 112 then v else u j)
    by_cases z : j = 112
    · rw [if_pos z, if_pos z]
    · rw [if_neg z, if_neg z, h1 j hj]
  · dsimp only
    rw [if_pos rfl, sumN_cg (g := u) 16 (fun i hi => if_neg (by omega))]
    omega
  · dsimp only
    rw [if_neg (show ¬ 16 + c = 112 by omega), if_neg (show ¬ 32 + c = 112 by omega)]
    exact h3 c hc
  · dsimp only
    rw [if_neg (show ¬ 48 + j = 112 by omega)]
    exact h4 j hj
theorem stOK.slot {f : Nat → Int32} {T N q : Nat} (h : stOK f T N q) {t v : Nat} (ht : t < 64) (hv : v < 1000000) : stOK (upN f (48 + t) (nI v)) T N q := by
  obtain ⟨u, h1, h2, h3, h4⟩ := h
  refine ⟨fun j => if j = 48 + t then v else u j, fun j hj => ?_, ?_, fun c hc => ?_, fun j hj => ?_⟩
  · show (if j = 48 + t then nI v else f j) = nI (if j = 48 + t then v else u j)
    by_cases z : j = 48 + t
    · rw [if_pos z, if_pos z]
    · rw [if_neg z, if_neg z, h1 j hj]
  · dsimp only
    rw [if_neg (by omega), sumN_cg (g := u) 16 (fun i hi => if_neg (by omega))]
    exact h2
  · dsimp only
    rw [if_neg (show ¬ 16 + c = 48 + t by omega), if_neg (show ¬ 32 + c = 48 + t by omega)]
    exact h3 c hc
  · dsimp only
    by_cases z : 48 + j = 48 + t
    · rw [if_pos z]; exact hv
    · rw [if_neg z]; exact h4 j hj
theorem stOK.nonce {f : Nat → Int32} {T N q : Nat} (h : stOK f T N q) {a v q' : Nat} (ha : a < 16) (hv : v + q' ≤ N) (hq : q' ≤ q) (h0 : v ≠ 0) : stOK (upN f (16 + a) (nI v)) T N q' := by
  obtain ⟨u, h1, h2, h3, h4⟩ := h
  refine ⟨fun j => if j = 16 + a then v else u j, fun j hj => ?_, ?_, fun c hc => ?_, fun j hj => ?_⟩
  · show (if j = 16 + a then nI v else f j) = nI (if j = 16 + a then v else u j)
    by_cases z : j = 16 + a
    · rw [if_pos z, if_pos z]
    · rw [if_neg z, if_neg z, h1 j hj]
  · dsimp only
    rw [if_neg (by omega), sumN_cg (g := u) 16 (fun i hi => if_neg (by omega))]
    exact h2
  · dsimp only
    obtain ⟨k1, k2, k3⟩ := h3 c hc
    rw [if_neg (show ¬ 32 + c = 16 + a by omega)]
    by_cases z : 16 + c = 16 + a
    · rw [if_pos z]; exact ⟨hv, k2, fun _ => by omega⟩
    · rw [if_neg z]; exact ⟨by omega, k2, k3⟩
  · dsimp only
    rw [if_neg (show ¬ 48 + j = 16 + a by omega)]
    exact h4 j hj
theorem stOK.code {f : Nat → Int32} {T N q : Nat} (h : stOK f T N q) {a v : Nat} (ha : a < 16) (hv : v ≤ 8) (h0 : v ≠ 0 → f (16 + a) ≠ 0) : stOK (upN f (32 + a) (nI v)) T N q := by
  obtain ⟨u, h1, h2, h3, h4⟩ := h
  refine ⟨fun j => if j = 32 + a then v else u j, fun j hj => ?_, ?_, fun c hc => ?_, fun j hj => ?_⟩
  · show (if j = 32 + a then nI v else f j) = nI (if j = 32 + a then v else u j)
    by_cases z : j = 32 + a
    · rw [if_pos z, if_pos z]
    · rw [if_neg z, if_neg z, h1 j hj]
  · dsimp only
    rw [if_neg (by omega), sumN_cg (g := u) 16 (fun i hi => if_neg (by omega))]
    exact h2
  · dsimp only
    obtain ⟨k1, k2, k3⟩ := h3 c hc
    rw [if_neg (show ¬ 16 + c = 32 + a by omega)]
    by_cases z : 32 + c = 32 + a
    · rw [if_pos z]
      refine ⟨k1, hv, fun y => ?_⟩
      have e := h0 y
      rw [h1 _ (by omega)] at e
      have ec : c = a := by omega
      rw [ec]
      by_cases w : u (16 + a) = 0
      · rw [w] at e; exact absurd rfl e
      · omega
    · rw [if_neg z]; exact ⟨k1, k2, k3⟩
  · dsimp only
    rw [if_neg (show ¬ 48 + j = 32 + a by omega)]
    exact h4 j hj
/-- what a place of a state in order holds -/
theorem stOK.get {f : Nat → Int32} {T N q : Nat} (h : stOK f T N q) : (∀ a, a < 16 → ∃ n, f a = nI n ∧ n ≤ T) ∧ (∀ a, a < 16 → ∃ n, f (16 + a) = nI n ∧ n + q ≤ N) ∧ (∀ a, a < 16 → ∃ n, f (32 + a) = nI n ∧ n ≤ 8 ∧ (n ≠ 0 → f (16 + a) ≠ 0 ∨ N ≥ 2147483648)) ∧ (∀ t, t < 64 → ∃ n, f (48 + t) = nI n ∧ n < 1000000) ∧ ∃ n, f 112 = nI n ∧ n ≤ T := by
  obtain ⟨u, h1, h2, h3, h4⟩ := h
  refine ⟨fun a ha => ⟨u a, h1 a (by omega), ?_⟩, fun a ha => ⟨u (16 + a), h1 _ (by omega), (h3 a ha).1⟩, fun a ha => ⟨u (32 + a), h1 _ (by omega), (h3 a ha).2.1, fun y => ?_⟩, fun t ht => ⟨u (48 + t), h1 _ (by omega), h4 t ht⟩, u 112, h1 112 (by omega), by omega⟩
  · have := sumN_mem (f := u) (k := a) (n := 16) ha
    omega
  · by_cases w : N < 2147483648
    · refine Or.inl (fun e => ?_)
      rw [h1 _ (by omega)] at e
      have k1 := (h3 a ha).1
      have k3 := (h3 a ha).2.2 y
      exact nI_ne0 (by omega) (by omega) e
    · exact Or.inr (by omega)
theorem PD_w {P : XP} {d : Nat} {C M : XO} (h : sPD P d C M) {k i j a : Nat} {v w : Int32} (ha : a < 113) : sPD P d (uI C k i j v) (uI M 2101 0 a w) := by
  refine ⟨fun t ht => ?_, fun i hi t ht => ?_⟩
  · rw [L_uI, I_uI, if_neg (fun z => by have := z.2.2; omega)]
    exact h.1 t ht
  · rw [L_uI, I_ne (by decide)]
    exact h.2 i hi t ht
theorem OW_w {P : XP} {d : Nat} {C C' M : XO} (h : sOW P d C M) {a : Nat} {w : Int32} (ha : a < 16 ∨ 32 ≤ a ∨ w ≠ 0) : sOW P d C' (uI M 2101 0 a w) := by
  intro i hi c hc e
  rw [I_ne (by decide)] at e
  obtain ⟨g1, g2⟩ := h i hi c hc e
  refine ⟨?_, fun k hk hik => ?_⟩
  · rw [I_uI]
    by_cases z : 16 + c = a
    · rw [if_pos ⟨rfl, rfl, z⟩]
      rcases ha with ha | ha | ha
      · omega
      · omega
      · exact ha
    · rw [if_neg (fun y => z y.2.2)]
      exact g1
  · rw [I_ne (by decide)]
    exact g2 k hk hik
theorem cmod_st {b : Nat} : cmod b 2011 b = true ∧ cmod b 2012 b = true ∧ cmod b 2013 b = true ∧ cmod b 2014 b = true ∧ cmod b 604 b = true ∧ cmod b 10 b = true ∧ cmod b 2001 b = true := by
  unfold cmod
  simp
theorem MS0.wI {P : XP} {d e q s : Nat} {C M : XO} (h : MS0 P d e q s C M) {a : Nat} (ha : a < 16) (v : Int32) : MS0 P d e q s (uI C 2011 (pb P) a v) (uI M 2101 0 a v) :=
  h.stI (fun k hk i j => I_ne (nc_ne hk).1) (fun k i j => by rw [L_uI]) (fun k hk i j => I_ne (nc_ne hk).1) (fun k i j => by rw [L_uI]) (fun _ _ => rfl) (h.LN.up h.ZP.1 (ph_2011 ha) _) (PD_w h.PD (by omega)) (OW_w h.OW (Or.inl ha)) (sFA_up h.FA (M' := M) cmod_st.1 _) (sFB_up h.FB (C' := C) rfl _)
theorem MS0.wII {P : XP} {d e q s : Nat} {C M : XO} (h : MS0 P d e q s C M) {a : Nat} (ha : a < 16) {v : Int32} (hv : v ≠ 0) : MS0 P d e q s (uI C 2012 (pb P) a v) (uI M 2101 0 (16 + a) v) :=
  h.stII (fun k hk i j => I_ne (nc_ne hk).1) (fun k i j => by rw [L_uI]) (fun k hk i j => I_ne (nc_ne hk).1) (fun k i j => by rw [L_uI]) (fun _ _ => rfl) (h.LN.up h.ZP.1 (ph_2012 ha) _) (PD_w h.PD (by omega)) (OW_w h.OW (Or.inr (Or.inr hv))) (sFA_up h.FA (M' := M) cmod_st.2.1 _) (sFB_up h.FB (C' := C) rfl _)
theorem MS0.wIII {P : XP} {d e q s : Nat} {C M : XO} (h : MS0 P d e q s C M) {a : Nat} (ha : a < 16) (v : Int32) : MS0 P d e q s (uI C 2013 (pb P) a v) (uI M 2101 0 (32 + a) v) :=
  h.stIII (fun k hk i j => I_ne (nc_ne hk).1) (fun k i j => by rw [L_uI]) (fun k hk i j => I_ne (nc_ne hk).1) (fun k i j => by rw [L_uI]) (fun _ _ => rfl) (h.LN.up h.ZP.1 (ph_2013 ha) _) (PD_w h.PD (by omega)) (OW_w h.OW (Or.inr (Or.inl (by omega)))) (sFA_up h.FA (M' := M) cmod_st.2.2.1 _) (sFB_up h.FB (C' := C) rfl _)
theorem MS0.wIV {P : XP} {d e q s : Nat} {C M : XO} (h : MS0 P d e q s C M) {a : Nat} (ha : a < 64) (v : Int32) : MS0 P d e q s (uI C 2014 (pb P) a v) (uI M 2101 0 (48 + a) v) :=
  h.stIV (fun k hk i j => I_ne (nc_ne hk).1) (fun k i j => by rw [L_uI]) (fun k hk i j => I_ne (nc_ne hk).1) (fun k i j => by rw [L_uI]) (fun _ _ => rfl) (h.LN.up h.ZP.1 (ph_2014 ha) _) (PD_w h.PD (by omega)) (OW_w h.OW (Or.inr (Or.inl (by omega)))) (sFA_up h.FA (M' := M) cmod_st.2.2.2.1 _) (sFB_up h.FB (C' := C) rfl _)
theorem MS0.wB {P : XP} {d e q s : Nat} {C M : XO} (h : MS0 P d e q s C M) (v : Int32) : MS0 P d e q s (uI C 604 (pb P) 0 v) (uI M 2101 0 112 v) :=
  h.stB (fun k hk i j => I_ne (nc_ne hk).1) (fun k i j => by rw [L_uI]) (fun k hk i j => I_ne (nc_ne hk).1) (fun k i j => by rw [L_uI]) (fun _ _ => rfl) (h.LN.up h.ZP.1 ph_604 _) (PD_w h.PD (by omega)) (OW_w h.OW (Or.inr (Or.inl (by omega)))) (sFA_up h.FA (M' := M) cmod_st.2.2.2.2.1 _) (sFB_up h.FB (C' := C) rfl _)
/-- the state as both see it -/
theorem MS0.eI {P : XP} {d e q s : Nat} {C M : XO} (h : MS0 P d e q s C M) {a : Nat} (ha : a < 16) : xI C 2011 (pb P) a = xI M 2101 0 a := h.LN 2011 _ _ _ (by decide) (ph_2011 ha)
theorem MS0.eII {P : XP} {d e q s : Nat} {C M : XO} (h : MS0 P d e q s C M) {a : Nat} (ha : a < 16) : xI C 2012 (pb P) a = xI M 2101 0 (16 + a) := h.LN 2012 _ _ _ (by decide) (ph_2012 ha)
theorem MS0.eIII {P : XP} {d e q s : Nat} {C M : XO} (h : MS0 P d e q s C M) {a : Nat} (ha : a < 16) : xI C 2013 (pb P) a = xI M 2101 0 (32 + a) := h.LN 2013 _ _ _ (by decide) (ph_2013 ha)
theorem MS0.eIV {P : XP} {d e q s : Nat} {C M : XO} (h : MS0 P d e q s C M) {a : Nat} (ha : a < 64) : xI C 2014 (pb P) a = xI M 2101 0 (48 + a) := h.LN 2014 _ _ _ (by decide) (ph_2014 ha)
theorem MS0.eB {P : XP} {d e q s : Nat} {C M : XO} (h : MS0 P d e q s C M) : xI C 604 (pb P) 0 = xI M 2101 0 112 := h.LN 604 _ _ _ (by decide) ph_604
/-- coins go over -/
theorem MS.move {P : XP} {d e q s : Nat} {C M : XO} (h : MS P d e q s C M) {a c v n : Nat} (ha : a < 16) (hc : c < 16) (hn : xI M 2101 0 a = nI n) (hn2 : n < 2147483648) (hv : v ≤ n) : ∃ C' M', fX6_move C (pb P) (nI a) (nI c) (nI v) = C' ∧ fX11_move M (nI a) (nI c) (nI v) = some M' ∧ MS P d e q s C' M' ∧ (∀ k i j, k ≠ 2011 → xI C' k i j = xI C k i j) ∧ (∀ k i j, xL C' k i j = xL C k i j) ∧ (∀ k i j, k ≠ 2101 → xI M' k i j = xI M k i j) ∧ (∀ j, 16 ≤ j → xI M' 2101 0 j = xI M 2101 0 j) := by
  have hT := h.1.ZP.2.2.2.1
  have w1 : xI (uI M 2101 0 a (nI (n - v))) 2101 0 c = if c = a then nI (n - v) else xI M 2101 0 c := by
    rw [I_uI]
    by_cases z : c = a
    · rw [if_pos ⟨rfl, rfl, z⟩, if_pos z]
    · rw [if_neg (fun y => z y.2.2), if_neg z]
  have w2 : xI (uI C 2011 (pb P) a (nI (n - v))) 2011 (pb P) c = if c = a then nI (n - v) else xI M 2101 0 c := by
    rw [I_uI]
    by_cases z : c = a
    · rw [if_pos ⟨rfl, rfl, z⟩, if_pos z]
    · rw [if_neg (fun y => z y.2.2), if_neg z, h.1.eI hc]
  obtain ⟨x, hx⟩ : ∃ x, x = (if c = a then nI (n - v) else xI M 2101 0 c) + nI v := ⟨_, rfl⟩
  refine ⟨uI (uI C 2011 (pb P) a (nI (n - v))) 2011 (pb P) c x, uI (uI M 2101 0 a (nI (n - v))) 2101 0 c x, ?_, ?_, ⟨(h.1.wI ha _).wI hc _, ?_⟩, fun k i j hk => by rw [I_ne hk, I_ne hk], fun k i j => by rw [L_uI, L_uI], fun k i j hk => by rw [I_ne hk, I_ne hk], fun j hj => by rw [I_uI, if_neg (fun y => by have := y.2.2; omega), I_uI, if_neg (fun y => by have := y.2.2; omega)]⟩
  · unfold fX6_move
    rw [if_neg (nI_nlt0 (by omega)), if_neg (show ¬ nI (alen 2011) ≤ nI a from nI_ge (b := 16) ha (by decide)), if_neg (nI_nlt0 (by omega)), if_neg (show ¬ nI (alen 2011) ≤ nI c from nI_ge (b := 16) hc (by decide)), cl_nI (show a < 2147483648 by omega), cl_nI (show c < 2147483648 by omega), h.1.eI ha, hn, nI_subI hv, w2, hx]
  · unfold fX11_move wl
    dsimp only
    rw [if_pos (inB_nI (show a < 120 by omega) (by decide)), if_pos (inB_nI (show a < 120 by omega) (by decide)), cl_nI (show a < 2147483648 by omega), hn, nI_subI hv, if_pos (inB_nI (show c < 120 by omega) (by decide)), if_pos (inB_nI (show c < 120 by omega) (by decide)), cl_nI (show c < 2147483648 by omega), w1, hx]
  · unfold sCS
    rw [curF, curF]
    obtain ⟨n1, g1, g2, g3⟩ := stOK.coin h.2 ha (n - v)
    try dsimp only at g1
    rw [hn] at g1
    have e1 : n = n1 := (nI_eq (by omega) (by omega)).mp g1
    subst e1
    obtain ⟨n2, k1, k2, -⟩ := stOK.coin g3 hc 0
    obtain ⟨n3, k3, k4, k5⟩ := stOK.coin g3 hc (n2 + v)
    have e2 : n2 = n3 := (nI_eq (by omega) (by omega)).mp (k1.symm.trans k3)
    subst e2
    have e3 : x = nI (n2 + v) := by
      rw [hx]
      have : upN (fun j => xI M 2101 0 j) a (nI (n - v)) c = if c = a then nI (n - v) else xI M 2101 0 c := rfl
      rw [← this, k1, nI_add]
    rw [e3]
    have e4 : pT P - n + (n - v) - n2 + (n2 + v) = pT P := by omega
    rw [e4] at k5
    exact k5
