/-- calls below f are as they were -/
def fl (f : Nat) (C C' : XO) : Prop := ∀ k i j, kfC.contains k = true → i < f → xI C' k i j = xI C k i j
theorem fl.refl (f : Nat) (C : XO) : fl f C C := fun _ _ _ _ _ => rfl
theorem fl.trans {f : Nat} {A B C : XO} (h1 : fl f A B) (h2 : fl f B C) : fl f A C := fun k i j hk hi => (h2 k i j hk hi).trans (h1 k i j hk hi)
theorem fl.mono {f f' : Nat} {A B : XO} (h : fl f A B) (hf : f' ≤ f) : fl f' A B := fun k i j hk hi => h k i j hk (by omega)
theorem fl_f {f k j : Nat} {v : Int32} {C : XO} : fl f C (uI C k f j v) := fun k' i' j' _ hi => by rw [I_uI, if_neg (fun y => by have := y.2.1; omega)]
theorem fl_s {f k i j : Nat} {v : Int32} {C : XO} (h : kfC.contains k = false) : fl f C (uI C k i j v) := fun k' i' j' hk hi => by
  rw [I_ne (fun y => by rw [y, h] at hk; exact absurd hk (by decide))]
theorem fl_L {f k i j : Nat} {v : Int64} {C : XO} : fl f C (uL C k i j v) := fun k' i' j' hk hi => rfl
theorem fl_push {f : Nat} {v : Int32} {C : XO} : fl f C (fX3_push C f v) := by
  unfold fX3_push
  split
  · exact fl.refl _ _
  · split
    · exact fl.refl _ _
    · exact fl_f.trans fl_f
theorem fl_take {f : Nat} {C : XO} : fl f C (fX3_take C f).2 := by
  unfold fX3_take
  split
  · exact fl.refl _ _
  · split
    · exact fl_f
    · exact fl.refl _ _
theorem fl_put {f k i : Nat} {x v : Int32} {C : XO} (h : i = f ∨ kfC.contains k = false) : fl f C (sPut C k i x v) := by
  unfold sPut
  split
  · exact fl.refl _ _
  · split
    · exact fl.refl _ _
    · rcases h with h | h
      · rw [h]; exact fl_f
      · exact fl_s h
theorem fl_calc {f : Nat} {o : Int32} {C : XO} : fl f C (fX3_calculate C f o) := by
  have h2 : fl f C (fX3_take (fX3_take C f).2 f).2 := fl_take.trans fl_take
  unfold fX3_calculate
  split
  · exact h2.trans fl_push
  split
  · exact h2.trans fl_push
  split
  · exact h2.trans fl_push
  split
  · split
    · exact h2.trans fl_push
    · exact h2.trans fl_push
  split
  · split
    · exact h2.trans fl_push
    · exact h2.trans fl_push
  split
  · exact h2
  split
  · exact (h2.trans fl_push).trans fl_push
  · exact h2
theorem fl_perf {f : Nat} {o a : Int32} {C : XO} : fl f C (fX3_perform C f o a) := by
  have hr : fl f C (fX3_reach C f a) := fl_f
  unfold fX3_perform
  by_cases z : o = 0
  · rw [if_pos z]
    exact fl_push
  rw [if_neg z]
  clear z
  by_cases z : o = 1
  · rw [if_pos z]
    exact fl_calc
  rw [if_neg z]
  clear z
  by_cases z : o = 2
  · rw [if_pos z]
    exact fl_calc
  rw [if_neg z]
  clear z
  by_cases z : o = 3
  · rw [if_pos z]
    exact fl_calc
  rw [if_neg z]
  clear z
  by_cases z : o = 4
  · rw [if_pos z]
    exact fl_calc
  rw [if_neg z]
  clear z
  by_cases z : o = 5
  · rw [if_pos z]
    exact fl_calc
  rw [if_neg z]
  clear z
  by_cases z : o = 6
  · rw [if_pos z]
    exact fl_push
  rw [if_neg z]
  clear z
  by_cases z : o = 7
  · rw [if_pos z]
    exact fl_calc
  rw [if_neg z]
  clear z
  by_cases z : o = 8
  · rw [if_pos z]
    exact fl_take
  rw [if_neg z]
  clear z
  by_cases z : o = 9
  · rw [if_pos z]
    exact fl_calc
  rw [if_neg z]
  clear z
  by_cases z : o = 10
  · rw [if_pos z]
    exact fl_calc
  rw [if_neg z]
  clear z
  by_cases z : o = 11
  · rw [if_pos z]
    exact fl_f
  rw [if_neg z]
  clear z
  by_cases z : o = 12
  · rw [if_pos z]
    split
    · exact fl_take.trans fl_f
    · exact fl_take.trans fl_f
  rw [if_neg z]
  clear z
  by_cases z : o = 13
  · rw [if_pos z]
    exact fl_push
  rw [if_neg z]
  clear z
  by_cases z : o = 14
  · rw [if_pos z]
    exact fl_push
  rw [if_neg z]
  clear z
  by_cases z : o = 15
  · rw [if_pos z]
    exact fl_push
  rw [if_neg z]
  clear z
  by_cases z : o = 16
  · rw [if_pos z]
    exact fl_calc
  rw [if_neg z]
  clear z
  by_cases z : o = 17
  · rw [if_pos z]
    exact (hr.trans fl_take).trans (fl_put (Or.inl rfl))
  rw [if_neg z]
  clear z
  by_cases z : o = 18
  · rw [if_pos z]
    exact hr.trans fl_push
  rw [if_neg z]
  clear z
  exact fl_calc
theorem fl_write {f b sg : Nat} {x v : Int32} {C C' : XO} (h : fX4_write C b sg x v = some C') : fl f C C' := by
  have hk : kfC.contains 2014 = false := by decide +kernel
  unfold fX4_write wl at h
  dsimp only at h
  repeat' split at h
  all_goals cases h
  all_goals first | exact fl_put (Or.inr hk) | exact (fl_s (by decide +kernel)).trans (fl_put (Or.inr hk))
theorem fl_event {f b : Nat} {x v : Int32} {C : XO} : fl f C (fX0_addEvent C b x v) := by
  unfold fX0_addEvent
  split
  · exact fl.refl _ _
  · split
    · exact fl.refl _ _
    · exact (fl_s (by decide +kernel)).trans (fl_s (by decide +kernel))
theorem fl_touch {f b : Nat} {o a : Int32} {C : XO} {r : Int32 × XO} (h : fX4_touchState C b b f o a = some r) : fl f C r.2 := by
  unfold fX4_touchState wl at h
  dsimp only at h
  split at h
  · split at h
    · cases h; exact fl_push
    · cases h
  split at h
  · cases e : fX4_write (fX3_take C f).2 b b (xI C 304 f 0 * 4 + a) (fX3_take C f).1 with
    | none => rw [e] at h; cases h
    | some w => rw [e] at h; cases h; exact fl_take.trans (fl_write e)
  split at h
  · split at h
    · cases h; exact fl_take.trans fl_push
    · cases h
  split at h
  · split at h
    · cases h; exact fl_take.trans fl_event
    · cases h
  · cases h; exact fl.refl _ _
theorem fl_cOp {f b : Nat} {o a : Int32} {C C' : XO} (h : cOp C b f o a = some C') : fl f C C' := by
  unfold cOp at h
  cases e : fX4_touchState C b b f o a with
  | none => rw [e] at h; cases h
  | some r =>
    rw [e, Option.bind_some] at h
    split at h
    · cases h; exact (fl_touch e).trans fl_perf
    · cases h; exact fl_touch e
theorem fl_gain {f b : Nat} {x v : Int32} {C : XO} : fl f C (fX6_gain C b x v) := by
  unfold fX6_gain
  split
  · exact fl.refl _ _
  · split
    · exact fl.refl _ _
    · exact fl_s (by decide +kernel)
theorem fl_move {f b : Nat} {x y v : Int32} {C : XO} : fl f C (fX6_move C b x y v) := by
  unfold fX6_move
  split
  · exact fl.refl _ _
  split
  · exact fl.refl _ _
  split
  · exact fl.refl _ _
  split
  · exact fl.refl _ _
  · exact (fl_s (by decide +kernel)).trans (fl_s (by decide +kernel))
theorem fl_raise {f b : Nat} {x : Int32} {C : XO} : fl f C (fX6_raiseNonce C b x) := by
  unfold fX6_raiseNonce
  split
  · exact fl.refl _ _
  · split
    · exact fl.refl _ _
    · exact fl_s (by decide +kernel)
theorem fl_found {f b : Nat} {x n p v : Int32} {C : XO} {r : Int32 × XO} (h : fX4_found C b b x n p v = some r) : fl f C r.2 := by
  have h12 : kfC.contains 2012 = false := by decide +kernel
  have h13 : kfC.contains 2013 = false := by decide +kernel
  unfold fX4_found wl at h
  dsimp only at h
  repeat' split at h
  all_goals cases h
  all_goals first | exact fl.refl _ _ | exact ((fl_put (Or.inr h13)).trans (fl_put (Or.inr h12))).trans fl_move
theorem fl_make {f b : Nat} {p : Int32} {C C' : XO} (h : fX4_makeFrom C b b f p = some C') : fl f C C' := by
  unfold fX4_makeFrom wl at h
  dsimp only at h
  repeat' split at h
  all_goals first | cases h; done | skip
  · cases h; exact (fl_take.trans fl_raise).trans fl_push
  · cases e : fX4_found (fX6_raiseNonce (fX3_take C f).2 b (xI (fX3_take C f).2 304 f 0)) b b (xI (fX6_raiseNonce (fX3_take C f).2 b (xI (fX3_take C f).2 304 f 0)) 304 f 0) (sAt (fX3_take C f).2 2012 b (xI (fX3_take C f).2 304 f 0)) p (fX3_take C f).1 with
    | none => rw [e] at h; cases h
    | some r => rw [e] at h; cases h; exact ((fl_take.trans fl_raise).trans (fl_found e)).trans fl_push
theorem fl_dropP {f b o : Nat} {C : XO} (ho : o < 16) : fl f C (fX6_dropProgram C b (nI o)) := by
  have h13 : kfC.contains 2013 = false := by decide +kernel
  have h14 : kfC.contains 2014 = false := by decide +kernel
  rw [dropP ho]
  exact ((((fl_s h13).trans (fl_s h14)).trans (fl_s h14)).trans (fl_s h14)).trans (fl_s h14)
/-- a call's gas, given and come back -/
theorem gasback {X g : Nat} (hX : X ≤ 600) (hg : g ≤ 600) : nI X + (nI g - (nI X - nI X / (4 : Int32))) = nI (X / 4 + g) ∧ nI X - (nI X - nI X / (4 : Int32)) = nI (X / 4) := by
  have e1 : nI X / (4 : Int32) = nI (X / 4) := by rw [show (4 : Int32) = nI 4 from rfl, div_nI (by omega) (by decide) (by decide)]
  rw [e1, nI_subI (by omega)]
  refine ⟨?_, by rw [nI_subI (by omega)]; congr 1; omega⟩
  have t1 : (nI g - nI (X - X / 4)).toInt = (g : Int) - ((X - X / 4 : Nat) : Int) := by
    rw [ti_sub (by rw [ti_nI (by omega), ti_nI (by omega)]; omega) (by rw [ti_nI (by omega), ti_nI (by omega)]; omega), ti_nI (by omega), ti_nI (by omega)]
  rw [ti_eq, ti_add (by rw [t1, ti_nI (by omega)]; omega) (by rw [t1, ti_nI (by omega)]; omega), t1, ti_nI (by omega), ti_nI (by omega)]
  omega
theorem MS.scr {P : XP} {d e q s : Nat} {C M : XO} (h : MS P d e q s C M) (k : Nat) (hk : k = 1155 ∨ k = 1156) (v : Int32) : MS P d e q s C (uI M k 0 0 v) := by
  have hne : ∀ x, x ≠ 1155 → x ≠ 1156 → x ≠ k := fun x a1 a2 => by rcases hk with rfl | rfl; exact a1; exact a2
  refine ⟨h.1.stScr (fun _ _ _ _ => rfl) (fun _ _ _ => rfl) (fun x hx i j => ?_) (fun x i j => by rw [L_uI]) (fun _ _ => rfl) h.1.FA (sFB_up h.1.FB (C' := C) (by rcases hk with rfl | rfl <;> rfl) _), sCS_cg (fun i j => I_ne (hne _ (by decide) (by decide))) h.2⟩
  obtain ⟨a1, hx⟩ := nc_ne hx
  obtain ⟨a2, -⟩ := nc_ne hx
  exact I_ne (hne _ a1 a2)
/-- the call below goes on -/
theorem MS.resume {P : XP} {d q s X g n r : Nat} {C M : XO} (h : MS P d d q s C M) (hd : 0 < d) (hX : xI C 310 (d - 1) 0 = nI X) (hX2 : X ≤ 600) (hs : s + g ≤ 600) (hn : xI C 301 (d - 1) 0 = nI n) (hn2 : n < 16) (hr : r ≤ 1) : ∃ C3 M3, fX3_push (uI C 310 (d - 1) 0 (nI (X / 4 + g))) (d - 1) (nI r) = C3 ∧ finT M (nI r) (nI g) = some M3 ∧ MS P d (d - 1) q (s + g) C3 M3 ∧ xI C3 310 (d - 1) 0 = nI (X / 4 + g) := by
  have hf : d - 1 < d := by omega
  obtain ⟨f4, fi, fc⟩ := fr5 h.1 hf
  obtain ⟨k1, k2⟩ := gasback (g := g) hX2 (by omega)
  have h1 := (h.scr 1156 (Or.inr rfl) (nI r)).scr 1155 (Or.inl rfl) (nI g)
  have hm : xI (uI (uI M 1156 0 0 (nI r)) 1155 0 0 (nI g)) 2144 0 (d - 1) = nI (X / 4) := by
    rw [h1.1.GA (d - 1) hf, if_neg (by omega), hX, k2]
  obtain ⟨u, u1, u2, u3⟩ := h1.1.GS
  have hu : u (d - 1) = X / 4 := by
    have e := u1 (d - 1) hf
    rw [hm] at e
    have hl : u (d - 1) ≤ sumN u d := sumN_mem hf
    exact ((nI_eq (by omega) (by omega)).mp e).symm
  have hs1 : sumN (fun i => if i = d - 1 then X / 4 + g else u i) d + X / 4 = sumN u d + (X / 4 + g) := by
    have := sumN_upd (f := u) (k := d - 1) (v := X / 4 + g) d hf
    rw [hu] at this
    exact this
  have h2 : MS P d (d - 1) q (s + g) (uI C 310 (d - 1) 0 (nI (X / 4 + g))) (uI (uI (uI M 1156 0 0 (nI r)) 1155 0 0 (nI g)) 2144 0 (d - 1) (nI (X / 4 + g))) := by
    refine ⟨h1.1.stRes (fun k hk i j => I_ne (nc_ne hk).1) (fun k i j => by rw [L_uI]) (fun k hk i j => I_ne (nc_ne hk).1) (fun k i j => by rw [L_uI]) (fun _ _ => rfl) ?_ ⟨fun i => if i = d - 1 then X / 4 + g else u i, fun i hi => ?_, by omega, by omega⟩ (sFA_up h1.1.FA (M' := M) rfl _) (sFB_up h1.1.FB (C' := C) rfl _), sCS_cg (fun i j => I_ne (by decide)) h1.2⟩
    · intro i hi
      by_cases z : i = d - 1
      · rw [I_uI, if_pos ⟨rfl, rfl, z⟩, if_pos z, I_uI, if_pos ⟨rfl, z, rfl⟩]
      · rw [I_uI, if_neg (fun y => z y.2.2), h1.1.GA i hi, if_neg (by omega), if_neg z, I_uI, if_neg (fun y => z y.2.1)]
    · dsimp only
      by_cases z : i = d - 1
      · rw [I_uI, if_pos ⟨rfl, rfl, z⟩, if_pos z]
      · rw [I_uI, if_neg (fun y => z y.2.2), if_neg z, u1 i hi]
  obtain ⟨C3, M3, p1, p2, p3, p4, p5, p6⟩ := h2.push' hf (n := n) (by rw [I_ne (by decide), hn]) hn2 (v := r) (by omega)
  refine ⟨C3, M3, p1, ?_, p3, by rw [p5 310 _ _ (by decide) (by decide), I_uI, if_pos ⟨rfl, rfl, rfl⟩]⟩
  have w1 : xI (uI (uI M 1156 0 0 (nI r)) 1155 0 0 (nI g)) 1153 0 0 = nI d := by rw [I_ne (by decide), I_ne (by decide)]; exact h.1.ST.1
  have w2 : xI (uI (uI (uI M 1156 0 0 (nI r)) 1155 0 0 (nI g)) 2144 0 (d - 1) (nI (X / 4 + g))) 1153 0 0 = nI d := by rw [I_ne (by decide), w1]
  have e1 : nI d - 1 = nI (d - 1) := by
    obtain ⟨t, rfl⟩ : ∃ t, d = t + 1 := ⟨d - 1, by omega⟩
    exact nI_pred t
  have e2 : (if nI r = 0 then (0 : Int32) else 1) = nI r := by
    rcases (show r = 0 ∨ r = 1 by omega) with rfl | rfl
    · rfl
    · rfl
  have e3 : nI r = 0 ∨ nI r = 1 := by
    rcases (show r = 0 ∨ r = 1 by omega) with rfl | rfl
    · exact Or.inl rfl
    · exact Or.inr rfl
  unfold finT wl
  dsimp only
  rw [if_pos e3, w1, if_neg (nI_nle (by omega) (by omega)), e1, if_pos fi, if_pos fi, fc, hm, nI_add, w2, e1, e2, p2, Option.bind_some]
/-- the first call is over -/
theorem finT0 {M : XO} {r g : Nat} (h : xI M 1153 0 0 = nI 0) (hr : r ≤ 1) : finT M (nI r) (nI g) = some (uI (uI M 1156 0 0 (nI r)) 1155 0 0 (nI g)) := by
  have w1 : xI (uI (uI M 1156 0 0 (nI r)) 1155 0 0 (nI g)) 1153 0 0 = nI 0 := by rw [I_ne (by decide), I_ne (by decide), h]
  have e3 : nI r = 0 ∨ nI r = 1 := by
    rcases (show r = 0 ∨ r = 1 by omega) with rfl | rfl
    · exact Or.inl rfl
    · exact Or.inr rfl
  unfold finT wl
  dsimp only
  rw [if_pos e3, w1, if_pos (show nI 0 ≤ 0 by decide)]
