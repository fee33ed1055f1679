theorem inv_start {D : XD} {Cb Mb C2 M1 : XO} (h : RGD D Cb Mb) {c p pr : Nat} {w : Int32} (hc : c < 2) (hnb : dnb D c < 24) (hp : p < dnb D c) (hpr : pr < 6)
    (c1 : ∀ k i j, ¬ (i = 24 * c + dnb D c ∧ (k = 2 ∨ k = 3 ∨ k = 4 ∨ k = 5 ∨ k = 16)) → ¬ (i = 24 * c + dnb D c ∧ stk k j) → k ≠ 405 → xI C2 k i j = xI Cb k i j) (c2 : ∀ k j, stk k j → xI C2 k (24 * c + dnb D c) j = xI Cb k (24 * c + p) j) (c3 : xI C2 3 (24 * c + dnb D c) 0 = nI pr) (c5 : xI C2 5 (24 * c + dnb D c) 0 = bsN (xI Cb 5 (24 * c + p) 0) (xI Cb 6 (24 * c + p) 0)) (cL : ∀ k i j, xL C2 k i j = if k = 605 ∧ i = 24 * c + dnb D c ∧ j = 0 then xL Cb 605 (24 * c + p) 0 else if k = 17 ∧ i = 24 * c + dnb D c ∧ j = 0 then xL Cb 17 (24 * c + p) 0 else xL Cb k i j) (cR : xR C2 403 0 = 24 * c + dnb D c ∧ xR C2 404 0 = 24 * c + dnb D c) (c405 : xI C2 405 0 0 = (if xI Cb 2 (24 * c + p) 0 + 1 < xI Cb 104 c 0 then 100 else 150))
    (hm : mCpy (hdM Mb c (24 * c + dnb D c) (24 * c + p) p (nI pr) w) 2101 0 2100 (120 * (24 * c + p)) 0 120 M1) : BAS D Cb Mb C2 M1 c p pr (bsN (xI Cb 5 (24 * c + p) 0) (xI Cb 6 (24 * c + p) 0)) ∧ INV D Cb C2 M1 c p (25000 * p) 0 0 C2 M1 C2 M1 := by
  obtain ⟨b, hb⟩ : ∃ b, b = 24 * c + dnb D c := ⟨_, rfl⟩
  obtain ⟨gp, hgp⟩ : ∃ gp, gp = 24 * c + p := ⟨_, rfl⟩
  simp only [← hb, ← hgp] at c1 c2 c3 c5 cL cR c405 hm
  have hne : gp ≠ b := by omega
  have hb48 : b < 48 := by omega
  have hg48 : gp < 48 := by omega
  obtain ⟨m1, m2, m3, m4⟩ := hm
  have B2b := h.B2 b hb48
  have B2g := h.B2 gp hg48
  have rc := (h.RC c hc (dnb D c) hnb).2 (Nat.le_refl _)
  rw [← hb] at rc
  obtain ⟨rc8, rc10, rc6, rc11, rc13, rc14, rc15, rc17⟩ := rc
  have m1' : ∀ k i j, k ≠ 2101 → xI M1 k i j = xI (hdM Mb c b gp p (nI pr) w) k i j := fun k i j hk => m1 k i j (fun y => hk y.1)
  have hd : ∀ k i j, ¬ (k = 1157) → ¬ (k = 1158) → ¬ (k = 2120 ∧ j = b) → ¬ (k = 2121 ∧ j = b) → ¬ (k = 2122 ∧ j = b) → ¬ (k = 2124 ∧ j = b) → xI (hdM Mb c b gp p (nI pr) w) k i j = xI Mb k i j := fun k i j h1 h2 h3 h4 h5 h6 => by
    unfold hdM
    rw [I_uI, if_neg (fun y => h6 ⟨y.1, y.2.2⟩), I_uL, I_uI, if_neg (fun y => h5 ⟨y.1, y.2.2⟩), I_uI, if_neg (fun y => h4 ⟨y.1, y.2.2⟩), I_uI, if_neg (fun y => h3 ⟨y.1, y.2.2⟩), I_ne h2, I_ne h1]
  have md : ∀ k i j, k ≠ 2101 → ¬ (k = 1157) → ¬ (k = 1158) → ¬ (k = 2120 ∧ j = b) → ¬ (k = 2121 ∧ j = b) → ¬ (k = 2122 ∧ j = b) → ¬ (k = 2124 ∧ j = b) → xI M1 k i j = xI Mb k i j := fun k i j h0 h1 h2 h3 h4 h5 h6 => by rw [m1' k i j h0, hd k i j h1 h2 h3 h4 h5 h6]
  have mds : ∀ k i j, k ≠ 2101 → k ≠ 1157 → k ≠ 1158 → k ≠ 2120 → k ≠ 2121 → k ≠ 2122 → k ≠ 2124 → xI M1 k i j = xI Mb k i j := fun k i j h0 h1 h2 h3 h4 h5 h6 => md k i j h0 h1 h2 (fun y => h3 y.1) (fun y => h4 y.1) (fun y => h5 y.1) (fun y => h6 y.1)
  have q1157 : xI M1 1157 0 0 = nI c := by rw [m1' _ _ _ (by decide)]; unfold hdM; rw [I_ne (by decide), I_uL, I_ne (by decide), I_ne (by decide), I_ne (by decide), I_ne (by decide), I_uI, if_pos ⟨rfl, rfl, rfl⟩]
  have q1158 : xI M1 1158 0 0 = nI b := by rw [m1' _ _ _ (by decide)]; unfold hdM; rw [I_ne (by decide), I_uL, I_ne (by decide), I_ne (by decide), I_ne (by decide), I_uI, if_pos ⟨rfl, rfl, rfl⟩]
  have q2120 : xI M1 2120 0 b = nI p := by rw [m1' _ _ _ (by decide)]; unfold hdM; rw [I_ne (by decide), I_uL, I_ne (by decide), I_ne (by decide), I_uI, if_pos ⟨rfl, rfl, rfl⟩]
  have q2121 : xI M1 2121 0 b = xI Mb 2121 0 gp + 1 := by rw [m1' _ _ _ (by decide)]; unfold hdM; rw [I_ne (by decide), I_uL, I_ne (by decide), I_uI, if_pos ⟨rfl, rfl, rfl⟩]
  have q2122 : xI M1 2122 0 b = nI pr := by rw [m1' _ _ _ (by decide)]; unfold hdM; rw [I_ne (by decide), I_uL, I_uI, if_pos ⟨rfl, rfl, rfl⟩]
  have q2124 : xI M1 2124 0 b = bsN (xI Cb 5 gp 0) (xI Cb 6 gp 0) := by
    have e1 : xI Cb 5 gp 0 = xI Mb 2124 0 gp := by rw [hgp]; exact h.BS c hc p hp
    rw [m1' _ _ _ (by decide)]; unfold hdM; rw [I_uI, if_pos ⟨rfl, rfl, rfl⟩, e1, B2g.2.2.1]
  have q2101 : ∀ x, x < 120 → xI M1 2101 0 x = xI Mb 2100 0 (120 * gp + x) := fun x hx => by
    have := m2 x (by omega) hx
    rw [Nat.zero_add] at this
    rw [this, hd _ _ _ (by decide) (by decide) (fun y => absurd y.1 (by decide)) (fun y => absurd y.1 (by decide)) (fun y => absurd y.1 (by decide)) (fun y => absurd y.1 (by decide))]
  have nst : ∀ k i j, ¬ (k = 2011 ∨ k = 2012 ∨ k = 2013 ∨ k = 2014 ∨ k = 604) → ¬ (i = b ∧ stk k j) := fun k i j hk y => hk (by have := y.2; unfold stk at this; omega)
  have cs : ∀ k i j, ¬ (k = 2 ∨ k = 3 ∨ k = 4 ∨ k = 5 ∨ k = 16) → ¬ (k = 2011 ∨ k = 2012 ∨ k = 2013 ∨ k = 2014 ∨ k = 604) → k ≠ 405 → xI C2 k i j = xI Cb k i j := fun k i j h1 h2 h3 => c1 k i j (fun y => h1 y.2) (nst k i j h2) h3
  obtain ⟨st1, st2, st3, st4, st5⟩ := h.ST gp hg48
  have hB1 := (bsN_1 (xI Cb 5 gp 0) (xI Cb 6 gp 0)).1
  rw [← hgp]
  refine ⟨⟨fun k i h1 h2 => cs k i 0 (by omega) (by omega) (by omega), fun k j hk => mds k 0 j (by omega) (by omega) (by omega) (by omega) (by omega) (by omega) (by omega), fun bb hbb => ⟨mds _ _ _ (by decide) (by decide) (by decide) (by decide) (by decide) (by decide) (by decide), md _ _ _ (by decide) (by decide) (by decide) (fun y => by omega) (fun y => absurd y.1 (by decide)) (fun y => absurd y.1 (by decide)) (fun y => absurd y.1 (by decide)), fun j hj => mds _ _ _ (by decide) (by decide) (by decide) (by decide) (by decide) (by decide) (by decide)⟩, ?_⟩, ⟨0, 0, 0, ?_⟩, ?_, fun j hj => absurd hj (by omega), fun j _ hj => ?_, fun t ht => ?_, fun _ _ _ _ => rfl, fun _ _ _ _ => rfl, fun _ _ _ _ _ _ => rfl, fun _ _ _ => rfl, 0, ?_, by omega⟩
  · rw [← hb]
    exact ⟨c5, q2124, c3, q2122, hpr, q2120, hB1⟩
  · rw [← hb]
    have eM : ∀ k i j, k ≠ 1154 → k ≠ 1153 → xI (uI (uI M1 1154 0 0 0) 1153 0 0 0) k i j = xI M1 k i j := fun k i j h1 h2 => by rw [I_ne h2, I_ne h1]
    have eC : ∀ k i j, k ≠ 406 → xI (uI C2 406 0 0 0) k i j = xI C2 k i j := fun k i j h1 => I_ne h1
    have pr2 := h.PR
    have hr10 : xI C2 10 b 0 = 0 := by rw [cs _ _ _ (by decide) (by decide) (by decide), rc10]
    have hm2130 : xI M1 2130 0 b = 0 := by rw [mds _ _ _ (by decide) (by decide) (by decide) (by decide) (by decide) (by decide) (by decide), ← B2b.2.2.2.2.1, rc10]
    refine ⟨⟨⟨by show b ≤ 48; omega, hb48, hc, Nat.le_refl _, by show 25000 * p + 601 * 0 ≤ 1000000; omega, Nat.le_refl _⟩, ?_, fun i hi => absurd hi (by omega), fun i hi => absurd hi (by omega), fun j hj hj2 => ?_, ⟨fun t ht => ?_, fun i hi => absurd hi (by omega)⟩, ⟨cR.1, cR.2⟩, ⟨by rw [I_uI, if_pos ⟨rfl, rfl, rfl⟩]; rfl, ?_, ?_, ?_, by omega⟩, fun q hq => ?_, fun i hi => absurd hi (by omega), fun i hi => absurd hi (by omega), fun i hi => absurd hi (by omega), fun i hi => absurd hi (by omega), fun i hi => absurd hi (by omega), ⟨fun _ => 0, fun i hi => absurd hi (by omega), Nat.le_refl _, by omega⟩, ⟨⟨0, ?_, by show 20 * 0 + 0 ≤ 800; omega⟩, fun i hi => absurd hi (by omega)⟩, ⟨⟨0, ?_, by omega⟩, fun i hi => absurd hi (by omega)⟩, fun k i j hk => ?_, fun k i j hk => ?_, fun k i j hk => ?_, fun k i j => ?_⟩, ?_⟩
    · show LN b 0 b (uI C2 406 0 0 0) (uI (uI M1 1154 0 0 0) 1153 0 0 0)
      refine LN0 (fun j hj => ?_) (fun j hj => ?_) (fun j hj => ?_) (fun j hj => ?_) ?_ ?_ ?_ (fun j hj => ?_) (fun j hj => ?_) (fun j hj => ?_)
      · rw [eC _ _ _ (by decide), eM _ _ _ (by decide) (by decide), c2 _ _ (Or.inl ⟨Or.inl rfl, hj⟩), q2101 _ (by omega), st1 j hj]
      · rw [eC _ _ _ (by decide), eM _ _ _ (by decide) (by decide), c2 _ _ (Or.inl ⟨Or.inr (Or.inl rfl), hj⟩), q2101 _ (by omega), st2 j hj, Nat.add_assoc]
      · rw [eC _ _ _ (by decide), eM _ _ _ (by decide) (by decide), c2 _ _ (Or.inl ⟨Or.inr (Or.inr rfl), hj⟩), q2101 _ (by omega), st3 j hj, Nat.add_assoc]
      · rw [eC _ _ _ (by decide), eM _ _ _ (by decide) (by decide), c2 _ _ (Or.inr (Or.inl ⟨rfl, hj⟩)), q2101 _ (by omega), st4 j hj, Nat.add_assoc]
      · rw [eC _ _ _ (by decide), eM _ _ _ (by decide) (by decide), c2 _ _ (Or.inr (Or.inr ⟨rfl, rfl⟩)), q2101 _ (by omega), st5]
      · rw [eC _ _ _ (by decide), eM _ _ _ (by decide) (by decide), hr10, hm2130]
      · rw [I_uI, if_pos ⟨rfl, rfl, rfl⟩, I_ne (by decide), I_uI, if_pos ⟨rfl, rfl, rfl⟩]
      · rw [eC _ _ _ (by decide), eM _ _ _ (by decide) (by decide), cs _ _ _ (by decide) (by decide) (by decide), mds _ _ _ (by decide) (by decide) (by decide) (by decide) (by decide) (by decide) (by decide), (pr2.1 j hj).1]
      · rw [eC _ _ _ (by decide), eM _ _ _ (by decide) (by decide), cs _ _ _ (by decide) (by decide) (by decide), mds _ _ _ (by decide) (by decide) (by decide) (by decide) (by decide) (by decide) (by decide), (pr2.1 j hj).2]
      · rw [eC _ _ _ (by decide), eM _ _ _ (by decide) (by decide), cs _ _ _ (by decide) (by decide) (by decide), mds _ _ _ (by decide) (by decide) (by decide) (by decide) (by decide) (by decide) (by decide), (pr2.2 j hj).1]
    · exfalso
      have e0 : (0 : Int32).toInt = 0 := rfl
      rcases hj2 with hj2 | ⟨i, hi, -⟩
      · have : xI (uI C2 406 0 0 0) 10 b 0 = 0 := by rw [eC _ _ _ (by decide), hr10]
        have hj3 : (j : Int) < (xI (uI C2 406 0 0 0) 10 b 0).toInt := hj2
        rw [this, e0] at hj3
        omega
      · omega
    · show b64 (xL (uI C2 406 0 0 0) 605 b 0) t ↔ b32 (xI (uI (uI M1 1154 0 0 0) 1153 0 0 0) 2101 0 (113 + t / 20)) (t % 20)
      rw [L_uI, cL, if_pos ⟨rfl, rfl, rfl⟩, eM _ _ _ (by decide) (by decide), q2101 _ (by omega), h.PD gp hg48 t ht, Nat.add_assoc]
    · rw [eM _ _ _ (by decide) (by decide)]
      exact q1157
    · rw [eM _ _ _ (by decide) (by decide)]
      exact q1158
    · show xI (uI C2 406 0 0 0) 405 0 0 = if xI (uI (uI M1 1154 0 0 0) 1153 0 0 0) 2121 0 b < xI (uI (uI M1 1154 0 0 0) 1153 0 0 0) 2107 0 c then 100 else 150
      rw [eC _ _ _ (by decide), eM _ _ _ (by decide) (by decide), eM _ _ _ (by decide) (by decide), q2121, mds 2107 _ _ (by decide) (by decide) (by decide) (by decide) (by decide) (by decide) (by decide), c405, (h.UP c hc).1, B2g.1]
    · obtain ⟨e1, n, n1, n2, n3⟩ := pr2.2 q hq
      refine ⟨n, n1, ?_, fun j hj => ?_⟩
      · rw [eM _ _ _ (by decide) (by decide), mds _ _ _ (by decide) (by decide) (by decide) (by decide) (by decide) (by decide) (by decide), ← e1, n2]
      · obtain ⟨o, a, o1, o2, o3, o4⟩ := n3 j hj
        have ej := pr2.1 (20 * q + j) (by omega)
        exact ⟨o, a, o1, by rw [eM _ _ _ (by decide) (by decide), mds _ _ _ (by decide) (by decide) (by decide) (by decide) (by decide) (by decide) (by decide), ← ej.1, o2], by rw [eM _ _ _ (by decide) (by decide), mds _ _ _ (by decide) (by decide) (by decide) (by decide) (by decide) (by decide) (by decide), ← ej.2, o3], o4⟩
    · rw [eM _ _ _ (by decide) (by decide)]
      exact hm2130
    · rw [I_ne (by decide), I_uI, if_pos ⟨rfl, rfl, rfl⟩]
      rfl
    · rw [eC k i j (fun y => by subst y; exact absurd hk (by simp [cmod]))]
      rfl
    · rw [eM k i j (fun y => by subst y; exact absurd hk (by simp [mmod])) (fun y => by subst y; exact absurd hk (by simp [mmod]))]
      rfl
    · rw [L_uI]
      rfl
    · rw [L_uI, L_uI]
      rfl
    · have hsi := h.SI c hc p hp
      rw [← hgp] at hsi
      obtain ⟨u, u1, u2, u3, u4⟩ := hsi
      refine ⟨u, fun j hj => ?_, u2, fun a ha => ⟨?_, (u3 a ha).2⟩, u4⟩
      · dsimp only
        rw [eM _ _ _ (by decide) (by decide), q2101 _ (by omega)]
        exact u1 j hj
      · have := (u3 a ha).1
        show u (16 + a) + 0 ≤ 25000 * p + 601 * 0
        omega
  · rw [← hb]
    refine ⟨by rw [cs _ _ _ (by decide) (by decide) (by decide), rc8]; rfl, by rw [cs _ _ _ (by decide) (by decide) (by decide), rc6]; rfl, by rw [mds _ _ _ (by decide) (by decide) (by decide) (by decide) (by decide) (by decide) (by decide), ← B2b.2.2.2.1, rc8]; rfl, by rw [mds _ _ _ (by decide) (by decide) (by decide) (by decide) (by decide) (by decide) (by decide), ← B2b.2.2.1, rc6]; rfl, by omega, by omega⟩
  · rw [← hb, cs _ _ _ (by decide) (by decide) (by decide), mds _ _ _ (by decide) (by decide) (by decide) (by decide) (by decide) (by decide) (by decide)]
    exact h.RW b hb48 j hj
  · rw [← hb, cL, if_neg (fun y => absurd y.1 (by decide)), if_pos ⟨rfl, rfl, rfl⟩, ← hgp]
    constructor
    · exact Or.inl
    · rintro (z | ⟨j, z, -⟩)
      · exact z
      · omega
  · rw [← hb, mds _ _ _ (by decide) (by decide) (by decide) (by decide) (by decide) (by decide) (by decide), ← B2b.2.2.2.2.1, rc10]
    rfl
