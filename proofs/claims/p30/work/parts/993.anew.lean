/-- the class's world but for the bench and what holds nothing -/
def RIf (Cb C : XO) : Prop := (∀ k i j, cmod 48 k i = false → ¬ (i = 48 ∧ (k = 3 ∨ k = 5)) → xI C k i j = xI Cb k i j) ∧ ∀ k i j, k ≠ 605 ∨ i < 48 → xL C k i j = xL Cb k i j
theorem rOpen (C : XO) (c g : Nat) : ∃ C2, fX4_open (fX0_imitate C 48 g) 48 (fX1_isUpgraded (fX0_imitate C 48 g) c g) = some C2 ∧ (∀ k i j, ¬ (i = 48 ∧ (k = 3 ∨ k = 5 ∨ k = 10)) → k ≠ 405 → xI C2 k i j = xI C k i j) ∧ (∀ k i j, xL C2 k i j = xL C k i j) ∧ (g ≠ 48 → xI C2 3 48 0 = xI C 3 g 0 ∧ xI C2 5 48 0 = xI C 5 g 0) ∧ xI C2 10 48 0 = 0 ∧ (xR C2 403 0 = 48 ∧ xR C2 404 0 = 48) ∧ xI C2 405 0 0 = (if xI C 2 g 0 < xI C 104 c 0 then 100 else 150) := by
  obtain ⟨V, hV⟩ : ∃ V, V = fX0_imitate C 48 g := ⟨_, rfl⟩
  have V1 : ∀ k i j, ¬ (i = 48 ∧ (k = 3 ∨ k = 5 ∨ k = 10)) → xI V k i j = xI C k i j := fun k i j h => by
    rw [hV]
    unfold fX0_imitate
    rw [I_uI, if_neg (fun y => h ⟨y.2.1, Or.inr (Or.inr y.1)⟩), I_uI, if_neg (fun y => h ⟨y.2.1, Or.inr (Or.inl y.1)⟩), I_uI, if_neg (fun y => h ⟨y.2.1, Or.inl y.1⟩)]
  have VL : ∀ k i j, xL V k i j = xL C k i j := fun k i j => by
    rw [hV]
    unfold fX0_imitate
    rw [L_uI, L_uI, L_uI]
  have V3 : xI V 3 48 0 = xI C 3 g 0 := by
    rw [hV]
    unfold fX0_imitate
    rw [I_ne (by decide), I_ne (by decide), I_uI, if_pos ⟨rfl, rfl, rfl⟩]
  have V5 : xI V 5 48 0 = xI C 5 g 0 := by
    rw [hV]
    unfold fX0_imitate
    rw [I_ne (by decide), I_uI, if_pos ⟨rfl, rfl, rfl⟩, I_ne (by decide)]
  have V10 : xI V 10 48 0 = 0 := by
    rw [hV]
    unfold fX0_imitate
    rw [I_uI, if_pos ⟨rfl, rfl, rfl⟩]
  rw [← hV]
  have hup : fX1_isUpgraded V c g = if xI C 2 g 0 < xI C 104 c 0 then 0 else 1 := by
    unfold fX1_isUpgraded
    rw [V1 2 _ _ (by omega), V1 104 _ _ (by omega)]
  obtain ⟨u, hu⟩ : ∃ u : Int32, u = if xI C 2 g 0 < xI C 104 c 0 then 100 else 150 := ⟨_, rfl⟩
  have hop : fX4_open V 48 (fX1_isUpgraded V c g) = some (uI (uR (uR V 403 0 48) 404 0 48) 405 0 0 u) := by
    rw [hup]
    unfold fX4_open wl
    dsimp only
    by_cases z : xI C 2 g 0 < xI C 104 c 0
    · rw [if_pos z, if_pos rfl, hu, if_pos z]
    · rw [if_neg z, if_neg one_n0, hu, if_neg z]
  refine ⟨_, hop, fun k i j h1 h2 => ?_, fun k i j => ?_, fun _ => ⟨?_, ?_⟩, ?_, ⟨?_, ?_⟩, ?_⟩
  · rw [I_ne h2, I_uR, I_uR, V1 k i j h1]
  · rw [L_uI, L_uR, L_uR, VL]
  · rw [I_ne (by decide), I_uR, I_uR, V3]
  · rw [I_ne (by decide), I_uR, I_uR, V5]
  · rw [I_ne (by decide), I_uR, I_uR, V10]
  · rw [R_uI, R_uR, R_uR, if_neg (fun y => absurd y.1 (by decide)), if_pos ⟨rfl, rfl⟩]
  · rw [R_uI, R_uR, if_pos ⟨rfl, rfl⟩]
  · rw [I_uI, if_pos ⟨rfl, rfl, rfl⟩, hu]
theorem RIf.opn {Cb C C2 : XO} (hf : RIf Cb C) (o1 : ∀ k i j, ¬ (i = 48 ∧ (k = 3 ∨ k = 5 ∨ k = 10)) → k ≠ 405 → xI C2 k i j = xI C k i j) (o2 : ∀ k i j, xL C2 k i j = xL C k i j) : RIf Cb C2 := by
  refine ⟨fun k i j h1 h2 => ?_, fun k i j h => ?_⟩
  · rw [o1 k i j (fun y => ?_) (fun y => ?_), hf.1 k i j h1 h2]
    · rcases y.2 with z | z | z
      · exact h2 ⟨y.1, Or.inl z⟩
      · exact h2 ⟨y.1, Or.inr z⟩
      · rw [z, y.1] at h1
        exact absurd h1 (by simp [cmod])
    · rw [y] at h1
      exact absurd h1 (by simp [cmod])
  · rw [o2, hf.2 k i j h]
theorem SBn.opn {C C2 M : XO} {q : Nat} (hs : SBn C M q) (o1 : ∀ k i j, ¬ (i = 48 ∧ (k = 3 ∨ k = 5 ∨ k = 10)) → k ≠ 405 → xI C2 k i j = xI C k i j) (o2 : ∀ k i j, xL C2 k i j = xL C k i j) : SBn C2 M q := by
  obtain ⟨s1, s2, s3, s4, s5, s6⟩ := hs
  exact ⟨fun j hj => by rw [o1 _ _ _ (by omega) (by decide), s1 j hj], fun j hj => by rw [o1 _ _ _ (by omega) (by decide), s2 j hj], fun j hj => by rw [o1 _ _ _ (by omega) (by decide), s3 j hj], fun j hj => by rw [o1 _ _ _ (by omega) (by decide), s4 j hj], by rw [o1 _ _ _ (by omega) (by decide), s5], fun t ht => by rw [o2]; exact s6 t ht⟩
/-- a block done anew -/
theorem rBlock {D : XD} {Cb Mb : XO} (h : RGD D Cb Mb) {c y : Nat} (hc : c < 2) (hy : y < dnb D c) (h0 : 0 < y) {C : XO} (hf : RIf Cb C) (hs : SBn C Mb (24 * c + dpa D c y)) (y2 y4 : Nat) (y5 y6 : Int32) : ∃ C2 C' y9, fX4_open (fX0_imitate C 48 (24 * c + y)) 48 (fX1_isUpgraded (fX0_imitate C 48 (24 * c + y)) c (24 * c + y)) = some C2 ∧ fX1_runAnew_l69 (24 * c + y) y6 y5 y4 48 c y2 41 (0 : Int32) C2 = some (y9, C') ∧ RIf Cb C' ∧ SBn C' Mb (24 * c + y) := by
  have nb := (h.NB c hc).2.2.2
  obtain ⟨b, hb⟩ : ∃ b, b = 24 * c + y := ⟨_, rfl⟩
  have hb48 : b < 48 := by omega
  have hpa := (h.PA c hc y hy).2 h0
  obtain ⟨n, ba, pr, G, ks, ⟨a1, a2, a3, a4, a5, a6⟩, s1, s2, w, st⟩ := h.GH c hc y hy h0
  obtain ⟨C2, o0, o1, o2, o3, o4, o5, o6⟩ := rOpen C c (24 * c + y)
  rw [← hb] at a1 a5 a6 s2 w st o0 o3 o6 ⊢
  have hf2 := hf.opn o1 o2
  have hs2 := hs.opn o1 o2
  have fr := hf2.1
  by_cases hn : n = 0
  · subst hn
    refine ⟨C2, C2, 0, o0, ?_, hf2, ?_⟩
    · have e8 : xI C2 8 b 0 = 0 := by rw [fr _ _ _ (by simp [cmod]) (by omega), a1]; rfl
      rw [fX1_runAnew_l69, e8, if_pos (Int32.le_refl _)]
    · have e : ∀ x, x < 120 → xI Mb 2100 0 (120 * (24 * c + dpa D c y) + x) = xI Mb 2100 0 (120 * b + x) := fun x hx => (s1 x hx).symm.trans (s2 x hx)
      obtain ⟨t1, t2, t3, t4, t5, t6⟩ := hs2
      exact ⟨fun j hj => by rw [t1 j hj, e _ (by omega)], fun j hj => by rw [t2 j hj, e _ (by omega)], fun j hj => by rw [t3 j hj, e _ (by omega)], fun j hj => by rw [t4 j hj, e _ (by omega)], by rw [t5, e _ (by omega)], fun t ht => by rw [t6 t ht, e _ (by omega)]⟩
  · have hw := w (by omega)
    obtain ⟨e3, e5⟩ := o3 (by omega)
    have g3 : xI C2 3 48 0 = nI pr := by rw [e3, hf.1 _ _ _ (by simp [cmod]) (by omega), a6]
    have g5 : xI C2 5 48 0 = nI ba := by rw [e5, hf.1 _ _ _ (by simp [cmod]) (by omega), a5]
    have hms := rStart h hc (show dpa D c y < dnb D c by omega) hb48 fr hs2 o4 o5 (by rw [o6, hf.1 2 _ _ (by simp [cmod]) (by omega), hf.1 104 _ _ (by simp [cmod]) (by omega)]) hw s1
    have hm0 : MS (48, b, c, 80000, 25000 * dpa D c y + 601 * 0, 800, C2, G 0) 0 0 0 0 (uI C2 406 0 0 0) (uI (uI (G 0) 1154 0 0 0) 1153 0 0 0) := hms
    have hnt := (h.NT c hc).2.2
    obtain ⟨C', y9, v, v', w', Y', l1, l2⟩ := rLoop (W := G 0) (y2 := y2) (y4 := y4) (y5 := y5) (y6 := y6) hc hb48 (show dpa D c y < 24 by omega) hnt a2 a3 a4 fr g5 g3 hw.2.2.1 a1 st n 0 0 (G 0) C2 0 0 0 (by omega) hm0 (fun _ _ _ _ _ _ => rfl) hw.2.2.2.2.1 hw.2.2.2.2.2.1
    have l3 := l1 (40 - n)
    rw [show n + 1 + (40 - n) = 41 by omega] at l3
    have eM : ∀ k i j, k ≠ 1154 → k ≠ 1153 → xI (uI (uI (G n) 1154 0 0 v') 1153 0 0 w') k i j = xI (G n) k i j := fun k i j h1 h2 => by rw [I_ne h2, I_ne h1]
    refine ⟨C2, C', y9, o0, l3, ⟨fun k i j h1 h2 => ?_, fun k i j hk => ?_⟩, ⟨fun j hj => ?_, fun j hj => ?_, fun j hj => ?_, fun j hj => ?_, ?_, fun t ht => ?_⟩⟩
    · have r1 : xI (uI C' 406 0 0 v) k i j = xI C2 k i j := l2.1.FA k i j h1
      rw [I_ne (fun z => by rw [z] at h1; exact absurd h1 (by simp [cmod]))] at r1
      rw [r1, fr k i j h1 h2]
    · have r1 : xL (uI C' 406 0 0 v) k i j = xL C2 k i j := l2.1.FL k i j (by
        rcases hk with z | z
        · exact Or.inl z
        · exact Or.inr ⟨by show i ≠ 48; omega, by omega⟩)
      rw [L_uI] at r1
      rw [r1, hf2.2 k i j hk]
    · have := l2.1.eI hj
      rw [I_ne (by decide), eM _ _ _ (by decide) (by decide), s2 _ (by omega)] at this
      exact this
    · have := l2.1.eII hj
      rw [I_ne (by decide), eM _ _ _ (by decide) (by decide), s2 _ (by omega)] at this
      exact this
    · have := l2.1.eIII hj
      rw [I_ne (by decide), eM _ _ _ (by decide) (by decide), s2 _ (by omega)] at this
      exact this
    · have := l2.1.eIV hj
      rw [I_ne (by decide), eM _ _ _ (by decide) (by decide), s2 _ (by omega)] at this
      exact this
    · have := l2.1.eB
      rw [I_ne (by decide), eM _ _ _ (by decide) (by decide), s2 _ (by omega)] at this
      exact this
    · have e : b64 (xL (uI C' 406 0 0 v) 605 48 0) t ↔ b32 (xI (uI (uI (G n) 1154 0 0 v') 1153 0 0 w') 2101 0 (113 + t / 20)) (t % 20) := l2.1.PD.1 t ht
      rw [L_uI, eM _ _ _ (by decide) (by decide), s2 _ (by omega)] at e
      exact e
theorem Anc_tot {par : Nat → Nat} : ∀ (n b y x : Nat), b ≤ n → (∀ z, z ≤ b → 0 < z → par z < z) → Anc par b y → Anc par b x → x < y → Anc par y x := by
  intro n
  induction n with
  | zero =>
    intro b y x hb hp hy hx hxy
    have := Anc_le b b y (Nat.le_refl _) hp hy
    omega
  | succ n ih =>
    intro b y x hb hp hy hx hxy
    rcases (Anc_iff hp).mp hy with z | ⟨z1, z2⟩
    · rw [z]; exact hx
    · have hpb := hp b (Nat.le_refl _) z1
      have hp2 : ∀ z, z ≤ par b → 0 < z → par z < z := fun z hz h1 => hp z (by omega) h1
      have hyb := Anc_le (par b) (par b) y (Nat.le_refl _) hp2 z2
      rcases (Anc_iff hp).mp hx with w | ⟨-, w2⟩
      · omega
      · exact ih (par b) y x (by omega) hp2 z2 w2 hxy
