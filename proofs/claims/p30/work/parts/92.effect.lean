theorem MS0.stGasS {P : XP} {e q s s' : Nat} {C M : XO} (h : MS0 P 0 e q s C M) (hs : s' ≤ 600) : MS0 P 0 e q s' C M :=
  ⟨h.ZP, h.LN, h.GA, h.HP, h.EV, h.PD, h.RF, h.ST, h.PR, h.SN, h.OW, h.FR, h.HS, h.MM, ⟨fun _ => 0, fun i hi => absurd hi (by omega), Nat.zero_le _, hs⟩, h.EC, h.RB, h.FA, h.FB, h.FL, h.FM⟩
def eMsg (M : XO) (sd tg v inp : Nat) : Option XO := (fX11_mark M 0).bind (fun r12 => (fX11_move r12 (nI sd) (nI tg) (nI v)).bind (fun r17 => if xI (uI r17 1156 0 0 1) 2101 0 (32 + tg) = 0 then some (uI r17 1156 0 0 1) else (fX11_begin (uI r17 1156 0 0 1) (nI tg) (nI sd) (nI v) (nI inp) (xI (uI r17 1156 0 0 1) 1155 0 0)).bind (fun r30 => fX11_machine r30)))
/-- a transaction to an account, on both machines -/
theorem MS.msg {P : XP} {q s : Nat} {C M : XO} (h : MS P 0 0 q s C M) {sd tg v inp co : Nat} (hsd : sd < 16) (htg : tg < 16) (hco : xI M 2101 0 sd = nI co) (hco2 : co ≤ 80000) (hv : v ≤ co) (hinp : inp < 1000000) (hs : s ≤ q) (hs6 : s ≤ 600) (g310 : xI C 310 0 0 = nI s) (m1155 : xI M 1155 0 0 = nI s) : ∃ C' M' r g sz, fX4_deliver (pb P) (pb P) 4 C (1 : Int32) (nI sd) (nI tg) (nI v) (nI inp) (nI s) = some (nI r, C') ∧ eMsg M sd tg v inp = some M' ∧ r ≤ 1 ∧ xI C' 310 0 0 = nI g ∧ xI M' 1155 0 0 = nI g ∧ xI M' 1156 0 0 = nI r ∧ MS P 0 0 sz sz C' M' ∧ g ≤ sz ∧ sz ≤ s := by
  obtain ⟨z1, z2, z3, z4, z5, z6⟩ := h.1.ZP
  have hrf := h.1.RF
  obtain ⟨C1, M1, q1, q2, q3, q4, q5, q6, q7⟩ := h.move hsd htg hco (by omega) hv
  have hC4 : uI C 310 0 0 (nI s) = C := uI_same g310
  obtain ⟨cd, cd1, cd2, -⟩ := h.2.get.2.2.1 tg htg
  have cd1' : xI M 2101 0 (32 + tg) = nI cd := cd1
  have scode : sAt C 2013 (pb P) (nI tg) = nI cd := by rw [sAt_nI (show tg < alen 2013 from htg) (by decide), h.1.eIII htg, cd1']
  have hk1 : xI M 1158 0 0 = nI (pk P) := h.1.ST.2.2.1
  obtain ⟨M4, m1, m2, m3, m4, m5, m6⟩ := eMark (d := 0) (by omega) z2 hk1
  have m1' : fX11_mark M 0 = some M4 := m1
  have m2101 : ∀ j, xI M4 2101 0 j = xI M 2101 0 j := fun j => m2 _ _ _ (fun y => absurd y.1 (by decide)) (fun y => absurd y.1 (by decide)) (fun y => absurd y.1 (by decide))
  have hmv3 := eMove (M := M) (a := sd) (c := tg) (by omega) (by omega) (nI v)
  have hmv4 := eMove (M := M4) (a := sd) (c := tg) (by omega) (by omega) (nI v)
  rw [q2] at hmv3
  have hM1 := Option.some.inj hmv3
  obtain ⟨M5, hM5⟩ : ∃ M5, M5 = uI (uI M4 2101 0 sd (xI M4 2101 0 sd - nI v)) 2101 0 tg (xI (uI M4 2101 0 sd (xI M4 2101 0 sd - nI v)) 2101 0 tg + nI v) := ⟨_, rfl⟩
  rw [← hM5] at hmv4
  have a5 : ∀ k i j, ¬ (k = 2102 ∧ i = 0 ∧ 120 * 0 ≤ j ∧ j < 120 * 0 + 120) → ¬ (k = 2151 ∧ i = 0 ∧ j = 0) → ¬ (k = 2152 ∧ i = 0 ∧ j = 0) → xI M5 k i j = xI M1 k i j := fun k i j h1 h2 h3 => by
    by_cases zk : k = 2101
    · subst zk
      rw [hM5, hM1, I_uI, I_uI, I_uI, I_uI, I_uI, I_uI, m2101 sd, m2101 tg, m2 _ i j h1 h2 h3]
    · rw [hM5, I_ne zk, I_ne zk, m2 k i j h1 h2 h3, q6 k i j zk]
  have b5x : ∀ x, x < 120 → xI M5 2102 0 (120 * 0 + x) = xI M 2101 0 x := fun x hx => by rw [hM5, I_ne (by decide), I_ne (by decide), m3 x hx]
  have b51 : xI M5 2151 0 0 = xI M 1154 0 0 := by rw [hM5, I_ne (by decide), I_ne (by decide), m4]
  have b52 : xI M5 2152 0 0 = xI M 2130 0 (pk P) := by rw [hM5, I_ne (by decide), I_ne (by decide), m5]
  have b5L : ∀ k i j, xL M5 k i j = xL M1 k i j := fun k i j => by rw [hM5, hM1, L_uI, L_uI, L_uI, L_uI, m6]
  have a5old : ∀ k i j, mOld 0 k j → xI M5 k i j = xI M1 k i j := fun k i j hm => a5 k i j (fun y => hm.2.1 y.1 y.2.2) (fun y => hm.1 (by rw [y.1]; decide +kernel) y.2.2) (fun y => hm.1 (by rw [y.1]; decide +kernel) y.2.2)
  have a5s : ∀ k i j, k ≠ 2102 → k ≠ 2151 → k ≠ 2152 → xI M5 k i j = xI M1 k i j := fun k i j h1 h2 h3 => a5 k i j (fun y => h1 y.1) (fun y => h2 y.1) (fun y => h3 y.1)
  have c5code : xI M5 2101 0 (32 + tg) = nI cd := by rw [a5s _ _ _ (by decide) (by decide) (by decide), q7 _ (by omega), cd1']
  have w55 : xI (uI M5 1156 0 0 1) 1155 0 0 = nI s := by rw [I_ne (by decide), a5s _ _ _ (by decide) (by decide) (by decide), q6 _ _ _ (by decide), m1155]
  have w2101 : xI (uI M5 1156 0 0 1) 2101 0 (32 + tg) = nI cd := by rw [I_ne (by decide), c5code]
  have hE : eMsg M sd tg v inp = (if nI cd = 0 then some (uI M5 1156 0 0 1) else (fX11_begin (uI M5 1156 0 0 1) (nI tg) (nI sd) (nI v) (nI inp) (nI s)).bind (fun r30 => fX11_machine r30)) := by
    unfold eMsg
    rw [m1', Option.bind_some, hmv4, Option.bind_some, w2101, w55]
  have e1one : (1 : Int32) - (1 : Int32) = nI 0 := rfl
  have k0 : (nI 0).toNatClampNeg = 0 := rfl
  have hdel0 : fX4_deliver (pb P) (pb P) 4 C (1 : Int32) (nI sd) (nI tg) (nI v) (nI inp) (nI s) = (if nI cd = 0 then some (1, C1) else wl (fX3_open C 0 (nI cd - (1 : Int32)) (nI sd) (nI tg) (nI v) (nI inp)) (fun Ω_10 => (if xR Ω_10 404 0 = pb P then (if xR Ω_10 403 0 = pb P then (wl (fX3_save Ω_10 0 (pb P) (xI Ω_10 10 (pb P) 0) (xI Ω_10 406 0 0)) (fun Ω_13 => (if xR Ω_13 404 0 = pb P then (wl (fX6_move Ω_13 (pb P) (nI sd) (nI tg) (nI v)) (fun Ω_15 => (fX4_runProgram Ω_15 (pb P) (pb P) (fX4_deliver (pb P) (pb P) 3) (1 : Int32) 0).bind (fun r_16 => (if r_16.1 = 0 then (fX4_undo r_16.2 (pb P) (pb P) 0).bind (fun r_19 => (if r_16.1 = 0 ∨ r_16.1 = 1 then (some (r_16.1, r_19)) else none)) else (if r_16.1 = 0 ∨ r_16.1 = 1 then (some (r_16.1, r_16.2)) else none))))) else none))) else none) else none))) := by
    rw [show (4 : Nat) = 3 + 1 from rfl, fX4_deliver]
    unfold fX4_deliver_s
    rw [if_neg (by decide), if_pos (by decide), e1one, if_pos (inB_nI (by decide) (by decide)), k0]
    unfold wl
    dsimp only
    rw [hC4, if_pos hrf.2, scode, if_pos hrf.2, q1]
  by_cases hcd : cd = 0
  · subst hcd
    rw [if_pos (show nI 0 = 0 from rfl)] at hE hdel0
    have h5 : MS P 0 0 q s C1 M5 := q3.junk (fun _ _ _ _ _ => rfl) (fun _ _ _ _ => rfl) (fun _ _ => rfl) a5old (a5s _ _ _ (by decide) (by decide) (by decide)) (fun j hj => absurd hj (by omega)) b5L
    refine ⟨C1, uI M5 1156 0 0 1, 1, s, s, hdel0, hE, Nat.le_refl _, by rw [q4 _ _ _ (by decide), g310], w55, by rw [I_uI, if_pos ⟨rfl, rfl, rfl⟩]; rfl, (h5.scr 1156 (Or.inr rfl) 1).low hs, Nat.le_refl _, Nat.le_refl _⟩
  · obtain ⟨p, rfl⟩ : ∃ p, cd = p + 1 := ⟨cd - 1, by omega⟩
    rw [if_neg (nI_ne0 (by omega) (by omega))] at hE hdel0
    have w1153 : xI (uI M5 1156 0 0 1) 1153 0 0 = nI 0 := by rw [I_ne (by decide), a5s _ _ _ (by decide) (by decide) (by decide)]; exact q3.1.ST.1
    obtain ⟨M6, n1, n2, n3, n4, n5, n6, n7, n8, n9, n10, n11, n12, n13, n14, n15⟩ := eBegin (d := 0) (l := nI sd) (v := nI v) (n := nI inp) (g := nI s) (by omega) w1153 htg w2101
    rw [n1, Option.bind_some] at hE
    obtain ⟨S, s1', s2, s3, s4, s5, s6, s7, s8, s9, s10, s11, s12, s13, s14, s15, s16, s17⟩ := cOpen (C := C) (d := 0) (b := pb P) (p := nI p) (l := nI sd) (o := nI tg) (v := nI v) (n := nI inp)
    obtain ⟨C6, hC6⟩ : ∃ C6, C6 = fX6_move S (pb P) (nI sd) (nI tg) (nI v) := ⟨_, rfl⟩
    have S2011 : ∀ i, xI S 2011 (pb P) i = xI C 2011 (pb P) i := fun i => by
      rw [s2 2011 (pb P) i (fun _ => by decide +kernel) (fun y => by omega)]
    have mv6 : ∀ k i j, xI C6 k i j = xI (uI (uI S 2011 (pb P) sd (nI (co - v))) 2011 (pb P) tg (xI (uI C 2011 (pb P) sd (nI (co - v))) 2011 (pb P) tg + nI v)) k i j := fun k i j => by
      rw [hC6]
      unfold fX6_move
      rw [if_neg (nI_nlt0 (by omega)), if_neg (show ¬ nI (alen 2011) ≤ nI sd from nI_ge (b := 16) hsd (by decide)), if_neg (nI_nlt0 (by omega)), if_neg (show ¬ nI (alen 2011) ≤ nI tg from nI_ge (b := 16) htg (by decide)), cl_nI (show sd < 2147483648 by omega), cl_nI (show tg < 2147483648 by omega), S2011, h.1.eI hsd, hco, nI_subI hv]
      have : xI (uI S 2011 (pb P) sd (nI (co - v))) 2011 (pb P) tg = xI (uI C 2011 (pb P) sd (nI (co - v))) 2011 (pb P) tg := by rw [I_uI, I_uI, S2011]
      rw [this]
    have mv1 : ∀ k i j, xI C1 k i j = xI (uI (uI C 2011 (pb P) sd (nI (co - v))) 2011 (pb P) tg (xI (uI C 2011 (pb P) sd (nI (co - v))) 2011 (pb P) tg + nI v)) k i j := fun k i j => by
      rw [← q1]
      unfold fX6_move
      rw [if_neg (nI_nlt0 (by omega)), if_neg (show ¬ nI (alen 2011) ≤ nI sd from nI_ge (b := 16) hsd (by decide)), if_neg (nI_nlt0 (by omega)), if_neg (show ¬ nI (alen 2011) ≤ nI tg from nI_ge (b := 16) htg (by decide)), cl_nI (show sd < 2147483648 by omega), cl_nI (show tg < 2147483648 by omega), h.1.eI hsd, hco, nI_subI hv]
    have c6S : ∀ k i j, (k ≠ 2011 ∨ i ≠ pb P) → xI C6 k i j = xI S k i j := fun k i j hk => by
      rw [mv6, I_uI, if_neg (fun y => by rcases hk with hk | hk; exact hk y.1; exact hk y.2.1), I_uI, if_neg (fun y => by rcases hk with hk | hk; exact hk y.1; exact hk y.2.1)]
    have l6 : ∀ k i j, xL C6 k i j = xL S k i j := fun k i j => by
      rw [hC6]
      unfold fX6_move
      rw [if_neg (nI_nlt0 (by omega)), if_neg (show ¬ nI (alen 2011) ≤ nI sd from nI_ge (b := 16) hsd (by decide)), if_neg (nI_nlt0 (by omega)), if_neg (show ¬ nI (alen 2011) ≤ nI tg from nI_ge (b := 16) htg (by decide)), L_uI, L_uI]
    have r6 : ∀ k i, xR C6 k i = xR S k i := fun k i => by
      rw [hC6]
      unfold fX6_move
      rw [if_neg (nI_nlt0 (by omega)), if_neg (show ¬ nI (alen 2011) ≤ nI sd from nI_ge (b := 16) hsd (by decide)), if_neg (nI_nlt0 (by omega)), if_neg (show ¬ nI (alen 2011) ≤ nI tg from nI_ge (b := 16) htg (by decide)), R_uI, R_uI]
    have rC1 : ∀ k i, xR C1 k i = xR C k i := fun k i => by
      rw [← q1]
      unfold fX6_move
      rw [if_neg (nI_nlt0 (by omega)), if_neg (show ¬ nI (alen 2011) ≤ nI sd from nI_ge (b := 16) hsd (by decide)), if_neg (nI_nlt0 (by omega)), if_neg (show ¬ nI (alen 2011) ≤ nI tg from nI_ge (b := 16) htg (by decide)), R_uI, R_uI]
    have hcc : ∀ k i j, (i = 0 → kfC.contains k = false) → (i = 49 + 0 → ksC.contains k = false) → xI C6 k i j = xI C1 k i j := fun k i j a1 a2 => by
      have hS : xI S k i j = xI C k i j := by
        rw [s2 k i j a1 (fun y => by
          have := a2 y.1
          have y2 := y.2
          unfold stk at y2
          rcases y2 with ⟨z | z | z, -⟩ | ⟨z, -⟩ | ⟨z, -⟩ <;> rw [z] at this <;> exact absurd this (by decide +kernel))]
      rw [mv6, mv1, I_uI, I_uI, I_uI, I_uI, I_uI, hS]
    have hcs : ∀ k j, stk k j → xI C6 k (49 + 0) j = xI C k (pb P) j := fun k j hs' => by
      rw [c6S k _ j (Or.inr (by omega)), s3 k j hs' (by omega)]
    have hcl : ∀ k i j, ¬ (k = 605 ∧ i = 49 + 0 ∧ j = 0) → xL C6 k i j = xL C1 k i j := fun k i j hk => by rw [l6, s4, if_neg hk, q5]
    have hcl2 : xL C6 605 (49 + 0) 0 = xL C 605 (pb P) 0 := by rw [l6, s4, if_pos ⟨rfl, rfl, rfl⟩]
    have hcr : ∀ k i, xR C6 k i = xR C1 k i := fun k i => by rw [r6, s5, rC1]
    have g6 : xI C6 310 0 0 = nI s := by rw [c6S _ _ _ (Or.inl (by decide)), s16, g310]
    have hGA : sGA P (0 + 1) 0 C6 M6 := by
      intro i hi
      have zi : i = 0 := by omega
      subst zi
      rw [n4, if_pos rfl, if_pos rfl, g6]
    have hGS : sGS P (0 + 1) s C6 M6 := by
      refine ⟨fun _ => s, fun i hi => ?_, ?_, hs6⟩
      · have zi : i = 0 := by omega
        subst zi
        rw [n4, if_pos rfl]
      · show 0 + s ≤ s
        omega
    have hms : ∀ j, j < 120 → xI M6 2102 0 (120 * 0 + j) = xI (uI M 1156 0 0 1) 2101 0 j := fun j hj => by rw [n3 _ _ _ (Or.inl rfl), I_ne (by decide), b5x j hj, I_ne (by decide)]
    have hmold : ∀ k i j, mOld 0 k j → xI M6 k i j = xI (uI M1 1156 0 0 1) k i j := fun k i j hm => by
      rw [n2 k i j hm, I_uI, I_uI, a5old k i j hm]
    have hM1s : ∀ k i j, k ≠ 2101 → xI (uI M1 1156 0 0 1) k i j = xI (uI M 1156 0 0 1) k i j := fun k i j hk => by rw [I_uI, I_uI, q6 k i j hk]
    have hent : MS P (0 + 1) 0 q s C6 M6 := MS.enter (h.scr 1156 (Or.inr rfl) 1) (q3.scr 1156 (Or.inr rfl) 1) (by omega) q4 q5 hM1s hcc hcs hcl hcl2 hcr hmold hms (fun k i j => by rw [n15, L_uI, b5L, L_uI]) htg hsd (by omega) hinp (show p < 8 by omega) (by rw [I_ne (by decide), q7 _ (by omega), cd1'])
      (by rw [c6S _ _ _ (Or.inl (by decide)), s8]) (by rw [c6S _ _ _ (Or.inl (by decide)), s7]) (by rw [c6S _ _ _ (Or.inl (by decide)), s9]) (by rw [c6S _ _ _ (Or.inl (by decide)), s10]) (by rw [c6S _ _ _ (Or.inl (by decide)), s6]) (by rw [c6S _ _ _ (Or.inl (by decide)), s11]) (by rw [c6S _ _ _ (Or.inl (by decide)), s12]) (by rw [c6S _ _ _ (Or.inl (by decide)), s13]) (by rw [c6S _ _ _ (Or.inl (by decide)), s14]) (by rw [c6S _ _ _ (Or.inl (by decide)), s15]) (fun j hj => by rw [c6S _ _ _ (Or.inl (by decide)), s17 j hj])
      n6 n7 n8 n9 n10 n11 n12 n13 (by rw [n3 _ _ _ (Or.inr (Or.inr rfl)), I_ne (by decide), b52, I_ne (by decide)]) (by rw [n3 _ _ _ (Or.inr (Or.inl rfl)), I_ne (by decide), b51, I_ne (by decide)]) n14 n5 hGA hGS
    obtain ⟨r, g', K, sz, C', C'', Mq, t1, t2, t3, t4, t5, t6, t7, t8, t9, t10, t11, t12⟩ := run_all P 4 1 (by omega) (by omega) 1000001 0 q s s C6 M6 hent hs g6 (by omega) (by omega)
    have hdel : fX4_deliver (pb P) (pb P) 4 C (1 : Int32) (nI sd) (nI tg) (nI v) (nI inp) (nI s) = some (nI r, C'') := by
      rw [hdel0]
      have hrO : ∀ k i, xR (fX3_open C 0 (nI (p + 1) - 1) (nI sd) (nI tg) (nI v) (nI inp)) k i = xR C k i := fun k i => by
        unfold fX3_open
        obtain ⟨Z, a1, a2, a3, a4, a5'⟩ := cZero_l (f := 0) (nI (p + 1) - 1) (nI sd) (nI tg) (nI v) (nI inp) 17 0 (uI (uI (uI (uI (uI (uI (uI (uI C 308 0 0 (nI (p + 1) - 1)) 305 0 0 (nI sd)) 304 0 0 (nI tg)) 306 0 0 (nI v)) 307 0 0 (nI inp)) 309 0 0 (0 : Int32)) 301 0 0 (0 : Int32)) 303 0 0 (-1 : Int32)) (by omega) (by omega)
        have a1' : fX3_open_l 0 (nI (p + 1) - 1) (nI sd) (nI tg) (nI v) (nI inp) ((16 : Int32).toNatClampNeg + 1) 0 (uI (uI (uI (uI (uI (uI (uI (uI C 308 0 0 (nI (p + 1) - 1)) 305 0 0 (nI sd)) 304 0 0 (nI tg)) 306 0 0 (nI v)) 307 0 0 (nI inp)) 309 0 0 (0 : Int32)) 301 0 0 (0 : Int32)) 303 0 0 (-1 : Int32)) = Z := a1
        rw [a1', a5']
        rfl
      unfold wl
      dsimp only
      rw [if_pos ((hrO _ _).trans hrf.2), if_pos ((hrO _ _).trans hrf.1), nI_pred, s1', if_pos (show xR S 404 0 = pb P by rw [s5]; exact hrf.2), ← hC6]
      unfold fX4_runProgram
      have t1' : fX4_runProgram_l2 (pb P) (pb P) (fX4_deliver (pb P) (pb P) 3) (1 : Int32) 0 1000001 (0 : Int32) C6 = some (Sum.inl (nI r, C')) := t1
      rw [t1']
      rcases (show r = 0 ∨ r = 1 by omega) with rfl | rfl
      · have t3' : fX4_undo C' (pb P) (pb P) 0 = some C'' := t3 rfl
        dsimp only [Option.bind_some, Sum.elim]
        rw [if_pos (show nI 0 = 0 from rfl), t3', Option.bind_some, if_pos (Or.inl (show nI 0 = 0 from rfl))]
      · have t4' := t4 rfl
        dsimp only [Option.bind_some, Sum.elim]
        rw [if_neg (show ¬ nI 1 = 0 by decide), if_pos (Or.inr (show nI 1 = 1 from rfl)), t4']
    have t6' : MS P 0 0 sz (sz - g') C'' Mq := t6
    have hfin := finT0 (r := r) (g := g') t6'.1.ST.1 t2
    obtain ⟨Mf, hMf⟩ : ∃ Mf, Mf = uI (uI Mq 1156 0 0 (nI r)) 1155 0 0 (nI g') := ⟨_, rfl⟩
    have hmach : fX11_machine M6 = some Mf := by
      unfold fX11_machine
      rw [show (100001 : Nat) = (100000 - K + 1) + K by omega, t5, hfin, Option.bind_some, fX11_machine_l0]
      have w : xI (uI (uI Mq 1156 0 0 (nI r)) 1155 0 0 (nI g')) 1153 0 0 = nI 0 := by rw [I_ne (by decide), I_ne (by decide)]; exact t6'.1.ST.1
      rw [w, if_pos (show nI 0 ≤ 0 by decide), Option.bind_some, hMf]
    have hres : MS P 0 0 sz sz C'' Mf := by
      rw [hMf]
      have := (t6'.scr 1156 (Or.inr rfl) (nI r)).scr 1155 (Or.inl rfl) (nI g')
      refine ⟨this.1.stGasS ?_, this.2⟩
      omega
    refine ⟨C'', Mf, r, g', sz, hdel, by rw [hE, hmach], t2, t9, by rw [hMf, I_uI, if_pos ⟨rfl, rfl, rfl⟩], by rw [hMf, I_ne (by decide), I_uI, if_pos ⟨rfl, rfl, rfl⟩], hres, t7, t8⟩
