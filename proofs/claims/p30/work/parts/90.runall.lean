theorem fl_fin {f b : Nat} {C : XO} {r : Int32 × XO} (h : fX4_finish C b b f (22 : Int32) = some r) : fl f C r.2 := by
  have hd : ∀ {W : XO} {x : Int32}, fl f W (fX6_dropProgram W b x) := fun {W x} => by
    have h13 : kfC.contains 2013 = false := by decide +kernel
    have h14 : kfC.contains 2014 = false := by decide +kernel
    have hl : ∀ n k W, fl f W (fX6_dropProgram_l b x n k W) := by
      intro n
      induction n with
      | zero => intro k W; exact fl.refl _ _
      | succ n ih =>
        intro k W
        unfold fX6_dropProgram_l
        split
        · exact fl.refl _ _
        · exact (fl_put (Or.inr h14)).trans (ih _ _)
    unfold fX6_dropProgram
    exact (fl_put (Or.inr h13)).trans (hl _ _ _)
  have ite2 : ∀ {c : Prop} [Decidable c] {a b : Option (Int32 × XO)}, (if c then a else b) = some r → a = some r ∨ b = some r := fun {c} _ {a b} h => by
    by_cases z : c
    · rw [if_pos z] at h; exact Or.inl h
    · rw [if_neg z] at h; exact Or.inr h
  unfold fX4_finish wl at h
  dsimp only at h
  rw [if_pos rfl] at h
  rcases ite2 h with h | h
  · rcases ite2 h with h | h
    · rcases ite2 h with h | h
      · rcases ite2 h with h | h
        · rcases ite2 h with h | h
          · rcases ite2 h with h | h
            · rw [← Option.some.inj h]
              exact ((((fl_take.trans fl_gain).trans (fl_s (by decide +kernel))).trans hd).trans (fl_s (by decide +kernel)))
            · rw [← Option.some.inj h]
              exact ((((fl_take.trans fl_gain).trans (fl_s (by decide +kernel))).trans hd).trans (fl_s (by decide +kernel)))
          · cases h
        · cases h
      · rcases ite2 h with h | h
        · rcases ite2 h with h | h
          · rcases ite2 h with h | h
            · rw [← Option.some.inj h]
              exact ((((fl_take.trans fl_gain).trans fl_gain).trans hd).trans (fl_s (by decide +kernel)))
            · rw [← Option.some.inj h]
              exact ((((fl_take.trans fl_gain).trans fl_gain).trans hd).trans (fl_s (by decide +kernel)))
          · cases h
        · cases h
    · cases h
  · cases h
theorem run_step {P : XP} {D : Nat} (hD : 0 < D) (hrun : D < 4 → RUN P (D + 1)) : RUN P D := by
  intro n
  induction n with
  | zero => intro y q s g C M _ _ _ h _; exact absurd h (by omega)
  | succ n ih =>
    intro y q s g C M h hs hg hgn hy
    have hf : D - 1 < D := by omega
    have eD : D = D - 1 + 1 := by omega
    obtain ⟨f4, fi, fc⟩ := fr5 h.1 hf
    have hb := h.1.ZP.1
    obtain ⟨g', ge, g1, g2⟩ := h.gas hD hg
    have gg : g' = g := nI_inj600 ge (by omega) (by omega)
    subst gg
    have hyI : nI y < (1000000 : Int32) := nI_lt (b := 1000000) (by omega) (by decide)
    obtain ⟨o', l, v, nn, p, t, gh, ⟨b1, b2, b3, b4, b5, b6, b7⟩, -, -, -, -, ⟨p1, p2⟩, ⟨t1, t2⟩, -⟩ := h.1.fr hf
    obtain ⟨len, l1, l2, l3⟩ := h.1.PR p b5
    have l2c : xI C 2010 0 p = nI len := by rw [h.1.LN 2010 _ _ _ (by decide) (ph_2010 b5), l2]
    obtain ⟨m, m1, m2, m3⟩ := h.sz hf
    have h1153 : xI M 1153 0 0 = nI (D - 1 + 1) := by rw [← eD]; exact h.1.ST.1
    -- how it ends
    have fin2 : ∀ (r sz g3 : Nat) (C3 M3 : XO), r ≤ 1 → fX4_runProgram_l2 (pb P) (pb P) (fX4_deliver (pb P) (pb P) (4 - D)) (nI D) (D - 1) (n + 1) (nI y) C = some (.inl (nI r, C3)) → (∀ n', fX11_machine_l0 (n' + 1) M = (fX11_finish M3 (nI r) (xI M3 2144 0 (D - 1))).bind (fun W => fX11_machine_l0 n' W)) → MS P D (D - 1) sz sz C3 M3 → sz ≤ s → xI C3 310 (D - 1) 0 = nI g3 → g3 ≤ g' → fl (D - 1) C C3 → ∃ (r g'' K sz : Nat) (C' C'' Mz : XO), fX4_runProgram_l2 (pb P) (pb P) (fX4_deliver (pb P) (pb P) (4 - D)) (nI D) (D - 1) (n + 1) (nI y) C = some (.inl (nI r, C')) ∧ r ≤ 1 ∧ (r = 0 → fX4_undo C' (pb P) (pb P) (D - 1) = some C'') ∧ (r = 1 → C'' = C') ∧ (∀ n', fX11_machine_l0 (n' + K) M = (finT Mz (nI r) (nI g'')).bind (fun W => fX11_machine_l0 n' W)) ∧ MS P (D - 1) (D - 1) sz (sz - g'') C'' Mz ∧ g'' ≤ sz ∧ sz ≤ s ∧ xI C'' 310 (D - 1) 0 = nI g'' ∧ fl (D - 1) C C'' ∧ K + sz ≤ s + 1 ∧ g'' ≤ g' := by
      intro r sz g3 C3 M3 hr e1 e2 h3 hsz hg3 hg3' hfl
      have h3' : MS P (D - 1 + 1) (D - 1) sz sz C3 M3 := by rw [← eD]; exact h3
      obtain ⟨C'', Mz, q1, q2, q3, q4, q5, q6, q7, q8⟩ := h3'.leave hg3 (by omega) hr
      refine ⟨r, g3, 1, sz, C3, C'', Mz, e1, hr, q1, q2, fun n' => ?_, q4, q5, hsz, q6, hfl.trans q7, by omega, hg3'⟩
      rw [e2 n', q8, q3]
    -- how it goes on
    have cont : ∀ (s2 g2 K0 : Nat) (C' M' : XO), fX4_runProgram_l2 (pb P) (pb P) (fX4_deliver (pb P) (pb P) (4 - D)) (nI D) (D - 1) (n + 1) (nI y) C = fX4_runProgram_l2 (pb P) (pb P) (fX4_deliver (pb P) (pb P) (4 - D)) (nI D) (D - 1) n (nI y + 1) C' → (∀ n', fX11_machine_l0 (n' + (K0 + 1)) M = fX11_machine_l0 n' M') → MS P D (D - 1) s2 s2 C' M' → xI C' 310 (D - 1) 0 = nI g2 → g2 < g' → K0 + 1 + s2 ≤ s → fl (D - 1) C C' → ∃ (r g'' K sz : Nat) (C' C'' Mz : XO), fX4_runProgram_l2 (pb P) (pb P) (fX4_deliver (pb P) (pb P) (4 - D)) (nI D) (D - 1) (n + 1) (nI y) C = some (.inl (nI r, C')) ∧ r ≤ 1 ∧ (r = 0 → fX4_undo C' (pb P) (pb P) (D - 1) = some C'') ∧ (r = 1 → C'' = C') ∧ (∀ n', fX11_machine_l0 (n' + K) M = (finT Mz (nI r) (nI g'')).bind (fun W => fX11_machine_l0 n' W)) ∧ MS P (D - 1) (D - 1) sz (sz - g'') C'' Mz ∧ g'' ≤ sz ∧ sz ≤ s ∧ xI C'' 310 (D - 1) 0 = nI g'' ∧ fl (D - 1) C C'' ∧ K + sz ≤ s + 1 ∧ g'' ≤ g' := by
      intro s2 g2 K0 C' M' e1 e2 h3 hg3 hlt hK hfl
      obtain ⟨r, gz, K, sz, D', D'', Mz, q1, q2, q3, q4, q5, q6, q7, q8, q9, q10, q11, q12⟩ := ih (y + 1) s2 s2 g2 C' M' h3 (Nat.le_refl _) hg3 (by omega) (by omega)
      refine ⟨r, gz, K + (K0 + 1), sz, D', D'', Mz, ?_, q2, q3, q4, fun n' => ?_, q6, q7, by omega, q9, hfl.trans q10, by omega, by omega⟩
      · rw [e1, nI_1, q1]
      · rw [← Nat.add_assoc, e2 (n' + K), q5 n']
    by_cases hlt : t < len
    · obtain ⟨o, a, o1, o2, o3, o4⟩ := l3 t hlt
      have o2c : xI C 2008 0 (20 * p + t) = nI o := by rw [h.1.LN 2008 _ _ _ (by decide) (ph_2008 (by omega)), o2]
      have o3c : xI C 2009 0 (20 * p + t) = nI a := by rw [h.1.LN 2009 _ _ _ (by decide) (ph_2009 (by omega)), o3]
      obtain ⟨c, x, c1, c2, c3, c4, c5⟩ := h.cost hD o1 o4
      have hM2144 : xI M 2144 0 (D - 1) = nI g' := by rw [h.1.GA (D - 1) hf, if_pos rfl, hg]
      have eC := r2_op (b := pb P) (n := n) (dl := fX4_deliver (pb P) (pb P) (4 - D)) (y1 := nI D) hyI p1 b5 t1 l2c hlt l1 o2c o3c o1 c2 c3 c4 hg (by omega) m2 m1
      have eM := fun n' => l0_op (n := n') f4 h1153 p2 b5 t2 l2 hlt l1 o2 o3 o1 c1 c4 hM2144 (by omega) m3 m1
      by_cases hbad : g' < c ∨ m < needN o ∨ 16 < m + growN o
      · rw [if_pos hbad] at eC
        simp only [if_pos hbad] at eM
        have e00 : nI g' - nI g' = nI 0 := by rw [nI_subI (Nat.le_refl _), Nat.sub_self]
        obtain ⟨a1, a2⟩ := h.pay hD hg (Nat.le_refl g') (by omega)
        rw [Nat.sub_self] at a2
        have a3 := (a2.next hf (t := t + 1) (by omega)).low (q' := s - g') (by omega)
        have a3' : MS P (D - 1 + 1) (D - 1) (s - g') (s - g') (uI (uI C 310 (D - 1) 0 (nI 0)) 309 (D - 1) 0 (nI (t + 1))) (uI (uI M 2144 0 (D - 1) (nI 0)) 2146 0 (D - 1) (nI (t + 1))) := by rw [← eD]; exact a3
        obtain ⟨X, Mz, q1, -, q3, q4, q5, q6, q7, q8⟩ := a3'.leave (g := 0) (r := 0) (by rw [I_ne (by decide), I_uI, if_pos ⟨rfl, rfl, rfl⟩]) (by decide) (by decide)
        obtain ⟨Y, u1, u2⟩ := undo309 (q1 rfl)
        have hXY : ∀ k i j, ¬ (k = 309 ∧ i = D - 1 ∧ j = 0) → xI Y k i j = xI X k i j := fun k i j hk => by rw [u2, I_uI, if_neg hk]
        have hY : MS P (D - 1) (D - 1) (s - g') (s - g' - 0) Y Mz := q4.junk (fun k i j a1 _ => hXY k i j (fun w => by have := a1 w.2.1; rw [w.1] at this; exact absurd this (by decide +kernel))) (fun k i j _ => by rw [u2, L_uI]) (fun k i => by rw [u2, R_uI]) (fun _ _ _ _ => rfl) rfl (fun _ _ => rfl) (fun _ _ _ => rfl)
        refine ⟨0, 0, 1, s - g', uI C 310 (D - 1) 0 0, Y, Mz, eC, by omega, fun _ => u1, fun w => absurd w (by decide), fun n' => ?_, hY, by omega, by omega, by rw [hXY _ _ _ (fun w => absurd w.1 (by decide)), q6], fun k i j hk hi => ?_, by omega, by omega⟩
        · rw [eM n', e00, uI_comm (k := 2146) (k' := 2144) (fun w => absurd w.1 (by decide))]
          have q3' : fX11_finish (uI (uI M 2144 0 (D - 1) (nI 0)) 2146 0 (D - 1) (nI (t + 1))) 0 0 = finT Mz (nI 0) (nI 0) := q3
          rw [q3']
        · rw [hXY k i j (fun w => by have := w.2.1; omega), q7 k i j hk hi, I_uI, if_neg (fun w => by have := w.2.1; omega), I_uI, if_neg (fun w => by have := w.2.1; omega)]
      · rw [if_neg hbad] at eC
        simp only [if_neg hbad] at eM
        have hcg : c ≤ g' := by omega
        have hneed : needN o ≤ m := by omega
        have hgrow : m + growN o ≤ 16 := by omega
        obtain ⟨a1, a2⟩ := h.pay hD hg hcg (by omega)
        obtain ⟨C2, hC2⟩ : ∃ C2, C2 = uI (uI C 310 (D - 1) 0 (nI (g' - c))) 309 (D - 1) 0 (nI (t + 1)) := ⟨_, rfl⟩
        obtain ⟨M2, hM2⟩ : ∃ M2, M2 = uI (uI M 2146 0 (D - 1) (nI (t + 1))) 2144 0 (D - 1) (nI (g' - c)) := ⟨_, rfl⟩
        have a3 : MS P D (D - 1) q (s - c) C2 M2 := by
          rw [hC2, hM2, uI_comm (k := 2146) (k' := 2144) (fun w => absurd w.1 (by decide))]
          exact a2.next hf (t := t + 1) (by omega)
        rw [← hC2] at eC
        simp only [← hM2] at eM
        have n2 : xI C2 301 (D - 1) 0 = nI m := by rw [hC2, I_ne (by decide), I_ne (by decide), m2]
        have g310 : xI C2 310 (D - 1) 0 = nI (g' - c) := by rw [hC2, I_ne (by decide), I_uI, if_pos ⟨rfl, rfl, rfl⟩]
        have hfl2 : fl (D - 1) C C2 := by rw [hC2]; exact fl_f.trans fl_f
        by_cases ho22 : o < 22
        · rw [if_pos ho22] at eC
          have pm1 : ∀ o, o < 22 → 1 ≤ pminN o := by decide +kernel
          have pm := pm1 o ho22
          by_cases h19 : o = 19
          · rw [if_pos h19] at eC
            subst h19
            have hc40 : 40 ≤ c := c5
            have hm3 : 3 ≤ m := hneed
            obtain ⟨C', Mb, M', K, s2, g2', r1, r2, r3, r4, r5, r6, r7, r8, r9⟩ := a3.call hD hrun (by omega) n2 hm3 m1 g310 (by omega)
            rw [r1, Option.bind_some] at eC
            refine cont s2 g2' K C' M' eC (fun n' => ?_) r4 r5 (by omega) (by omega) (hfl2.trans r9)
            have hdo : fX11_does M2 (nI (D - 1)) (nI 19) (nI a) = some Mb := by
              show fX11_does M2 (nI (D - 1)) (19 : Int32) (nI a) = some Mb
              unfold fX11_does
              rw [if_neg (by decide), if_neg (by decide), if_neg (by decide), if_neg (by decide), if_neg (by decide), if_neg (by decide), if_neg (by decide), if_neg (by decide), if_neg (by decide), if_neg (by decide), if_neg (by decide), if_neg (by decide), if_neg (by decide), if_neg (by decide), if_neg (by decide), if_neg (by decide), if_neg (by decide), if_neg (by decide), if_neg (by decide), if_pos rfl, r2, Option.bind_some]
            rw [← Nat.add_assoc, eM (n' + K), hdo, Option.bind_some, r3 n']
          · rw [if_neg h19] at eC
            by_cases h21 : o = 21
            · rw [if_pos h21] at eC
              subst h21
              have hc80 : 80 ≤ c := c5
              have hm1 : 1 ≤ m := hneed
              have ha7 : a ≤ 7 := by
                have e : ((sArr 0).getD 21 0).toInt = 7 := by decide +kernel
                rw [e] at o4
                omega
              obtain ⟨C', M', r1, r2, r3, r4⟩ := op21 a3 hD n2 hm1 m1 (by omega) ha7
              rw [r1, Option.bind_some] at eC
              refine cont (s - c) (g' - c) 0 C' M' eC (fun n' => ?_) r3 (by rw [r4, g310]) (by omega) (by omega) (hfl2.trans (fl_make r1))
              have r2' : fX11_does M2 (nI (D - 1)) (nI 21) (nI a) = some M' := r2
              rw [Nat.zero_add, eM n', r2', Option.bind_some]
            · rw [if_neg h21] at eC
              obtain ⟨C', M', r1, r2, r3, r4⟩ := opAny a3 hD n2 m1 (show o < 21 by omega) h19 (by omega) o4 hneed hgrow
              rw [r1, Option.bind_some] at eC
              refine cont (s - c) (g' - c) 0 C' M' eC (fun n' => ?_) r3 (by rw [r4, g310]) (by omega) (by omega) (hfl2.trans (fl_cOp r1))
              rw [Nat.zero_add, eM n', r2, Option.bind_some]
        · rw [if_neg ho22] at eC
          have hlow := a3.low (q' := s - c) (by omega)
          rcases (show o = 22 ∨ o = 23 ∨ o = 24 by omega) with rfl | rfl | rfl
          · have hc20 : 20 ≤ c := c5
            have hm1 : 1 ≤ m := hneed
            obtain ⟨k, rfl⟩ : ∃ k, m = k + 1 := ⟨m - 1, by omega⟩
            obtain ⟨C', M', r1, r2, r3, r4⟩ := a3.ends hD n2 (by omega) (by omega)
            have r1' : fX4_finish C2 (pb P) (pb P) (D - 1) (nI 22) = some (1, C') := r1
            rw [r1', Option.bind_some, if_pos (Or.inr rfl)] at eC
            refine fin2 1 (s - c) (g' - c) C' M' (Nat.le_refl _) eC (fun n' => ?_) r3 (by omega) (by rw [r4, g310]) (by omega) ?_
            · have hdo : fX11_does M2 (nI (D - 1)) (nI 22) (nI a) = fX11_finish M' (nI 1) (xI M' 2144 0 (D - 1)) := by
                show fX11_does M2 (nI (D - 1)) (22 : Int32) (nI a) = _
                unfold fX11_does
                rw [if_neg (by decide), if_neg (by decide), if_neg (by decide), if_neg (by decide), if_neg (by decide), if_neg (by decide), if_neg (by decide), if_neg (by decide), if_neg (by decide), if_neg (by decide), if_neg (by decide), if_neg (by decide), if_neg (by decide), if_neg (by decide), if_neg (by decide), if_neg (by decide), if_neg (by decide), if_neg (by decide), if_neg (by decide), if_neg (by decide), if_neg (by decide), if_neg (by decide), if_pos rfl, r2, bS]
                rfl
              rw [eM n', hdo]
            · refine hfl2.trans (fun kk i j hk hi => ?_)
              exact fl_fin r1 kk i j hk hi
          · have r1' : fX4_finish C2 (pb P) (pb P) (D - 1) (nI 23) = some (0, C2) := by
              unfold fX4_finish
              rw [if_neg (by decide), if_pos (show nI 23 = (23 : Int32) from rfl)]
            rw [r1', Option.bind_some, if_pos (Or.inl rfl)] at eC
            refine fin2 0 (s - c) (g' - c) C2 M2 (by decide) eC (fun n' => ?_) hlow (by omega) g310 (by omega) hfl2
            have hdo : fX11_does M2 (nI (D - 1)) (nI 23) (nI a) = fX11_finish M2 (nI 0) (xI M2 2144 0 (D - 1)) := by
              show fX11_does M2 (nI (D - 1)) (23 : Int32) (nI a) = _
              unfold fX11_does
              rw [if_neg (by decide), if_neg (by decide), if_neg (by decide), if_neg (by decide), if_neg (by decide), if_neg (by decide), if_neg (by decide), if_neg (by decide), if_neg (by decide), if_neg (by decide), if_neg (by decide), if_neg (by decide), if_neg (by decide), if_neg (by decide), if_neg (by decide), if_neg (by decide), if_neg (by decide), if_neg (by decide), if_neg (by decide), if_neg (by decide), if_neg (by decide), if_neg (by decide), if_neg (by decide), if_pos rfl, if_pos fi, fc, bS]
              rfl
            rw [eM n', hdo]
          · have r1' : fX4_finish C2 (pb P) (pb P) (D - 1) (nI 24) = some (1, C2) := by
              unfold fX4_finish
              rw [if_neg (by decide), if_neg (by decide)]
            rw [r1', Option.bind_some, if_pos (Or.inr rfl)] at eC
            refine fin2 1 (s - c) (g' - c) C2 M2 (by decide) eC (fun n' => ?_) hlow (by omega) g310 (by omega) hfl2
            have hdo : fX11_does M2 (nI (D - 1)) (nI 24) (nI a) = fX11_finish M2 (nI 1) (xI M2 2144 0 (D - 1)) := by
              show fX11_does M2 (nI (D - 1)) (24 : Int32) (nI a) = _
              unfold fX11_does
              rw [if_neg (by decide), if_neg (by decide), if_neg (by decide), if_neg (by decide), if_neg (by decide), if_neg (by decide), if_neg (by decide), if_neg (by decide), if_neg (by decide), if_neg (by decide), if_neg (by decide), if_neg (by decide), if_neg (by decide), if_neg (by decide), if_neg (by decide), if_neg (by decide), if_neg (by decide), if_neg (by decide), if_neg (by decide), if_neg (by decide), if_neg (by decide), if_neg (by decide), if_neg (by decide), if_neg (by decide), if_pos fi, fc, bS]
              rfl
            rw [eM n', hdo]
    · have eC := r2_end (b := pb P) (n := n) (dl := fX4_deliver (pb P) (pb P) (4 - D)) (y1 := nI D) hyI p1 b5 t1 l2c (by omega) b6
      refine fin2 1 s g' C M (by decide) eC (fun n' => l0_end f4 h1153 p2 b5 t2 l2 (by omega) b6) (h.low hs) (Nat.le_refl _) hg (Nat.le_refl _) (fl.refl _ _)
theorem run_all (P : XP) : ∀ m D, 0 < D → D + m = 5 → RUN P D := by
  intro m
  induction m with
  | zero => intro D h1 h2; exact run_step h1 (fun h => absurd h (by omega))
  | succ m ih => intro D h1 h2; exact run_step h1 (fun h => ih (D + 1) (by omega) (by omega))
