theorem b64_0 {t : Nat} (ht : t < 64) : ¬ b64 (0 : Int64) t := by
  rw [b64_iff ht]
  simp
/-- the blocks of a line done anew, one behind the other -/
theorem rAll {D : XD} {Cb Mb : XO} (h : RGD D Cb Mb) {c b : Nat} (hc : c < 2) (hb : b < dnb D c) : ∀ (m y q : Nat) (C : XO), y + m = 24 → RIf Cb C → SBn C Mb (24 * c + q) → Anc (dpa D c) b q → (q < y ∨ q = 0) → (∀ x, Anc (dpa D c) b x → x < y → x ≤ q) → ∃ y' C', fX1_runAnew_l26 (nI (alen 2002)) c 48 c (24 * c + b) (m + 1) (nI y) C = some (y', C') ∧ RIf Cb C' ∧ SBn C' Mb (24 * c + b) := by
  have nb := (h.NB c hc).2.2.2
  have hpar := h.par hc hb
  intro m
  induction m with
  | zero =>
    intro y q C hy hf hs hq hqy hmax
    have e : y = 24 := by omega
    subst e
    have hqb := Anc_le b b q (Nat.le_refl _) hpar hq
    have hbq := hmax b (Anc_self _ _) (by omega)
    have e : q = b := by omega
    subst e
    refine ⟨nI 24, C, ?_, hf, hs⟩
    rw [fX1_runAnew_l26, if_pos (show nI (alen 2002) ≤ nI 24 from Int32.le_refl _)]
  | succ m ih =>
    intro y q C hy hf hs hq hqy hmax
    have hy24 : y < 24 := by omega
    have hcf : fX0_comesFrom C (24 * c + b) (24 * c + y) = fX0_comesFrom Cb (24 * c + b) (24 * c + y) := by
      unfold fX0_comesFrom
      rw [hf.1 16 _ _ rfl (by omega), hf.1 0 _ _ rfl (by omega)]
    have hst : ∀ R, (if (fX0_comesFrom Cb (24 * c + b) (24 * c + y)) = 0 then fX1_runAnew_l26 (nI (alen 2002)) c 48 c (24 * c + b) (m + 1) (nI (y + 1)) C else (fX4_open (fX0_imitate C 48 (24 * c + y)) 48 (fX1_isUpgraded (fX0_imitate C 48 (24 * c + y)) c (24 * c + y))).bind (fun r_6 => (fX1_runAnew_l69 (24 * c + y) (nI y) (nI (alen 2002)) c 48 c (24 * c + b) 41 (0 : Int32) r_6).bind (fun q_7 => fX1_runAnew_l26 (nI (alen 2002)) c 48 c (24 * c + b) (m + 1) (nI (y + 1)) q_7.2))) = R → fX1_runAnew_l26 (nI (alen 2002)) c 48 c (24 * c + b) (m + 1 + 1) (nI y) C = R := fun R hR => by
      rw [fX1_runAnew_l26, if_neg (show ¬ nI (alen 2002) ≤ nI y from nI_ge (b := 24) hy24 (by decide)), if_pos (inB_nI hy24 (by decide)), cl_nI (show y < 2147483648 by omega), hcf, nI_1]
      unfold wl
      exact hR
    rcases cFrom h hc (show b < 24 by omega) hy24 with ⟨-, hanc, f2⟩ | ⟨f1, f2⟩
    · rw [f2] at hst
      by_cases h0 : y = 0
      · subst h0
        have hq0 : q = 0 := by omega
        subst hq0
        obtain ⟨C2, o0, o1, o2, -, -, -, -⟩ := rOpen C c (24 * c + 0)
        have hf2 := hf.opn o1 o2
        have hs2 := hs.opn o1 o2
        have hl : fX1_runAnew_l69 (24 * c + 0) (nI 0) (nI (alen 2002)) c 48 c (24 * c + b) 41 (0 : Int32) C2 = some (0, C2) := by
          have e8 : xI C2 8 (24 * c + 0) 0 = 0 := by rw [hf2.1 8 _ _ rfl (by omega)]; exact (h.F0 c hc).1
          rw [fX1_runAnew_l69, e8, if_pos (Int32.le_refl _)]
        obtain ⟨y', C', i1, i2, i3⟩ := ih 1 0 C2 (by omega) hf2 hs2 hq (Or.inl (by omega)) (fun x _ hx => by omega)
        refine ⟨y', C', hst _ ?_, i2, i3⟩
        rw [if_neg one_n0, o0, Option.bind_some, hl, Option.bind_some]
        exact i1
      · have hyb := Anc_le b b y (Nat.le_refl _) hpar hanc
        have hyn : y < dnb D c := by omega
        have hpy := (h.PA c hc y hyn).2 (by omega)
        have hpary := h.par hc hyn
        have hap : Anc (dpa D c) y (dpa D c y) := (Anc_iff hpary).mpr (Or.inr ⟨by omega, Anc_self _ _⟩)
        have htr : ∀ (n b' : Nat), b' ≤ n → b' < dnb D c → Anc (dpa D c) b' y → Anc (dpa D c) b' (dpa D c y) := by
          intro n
          induction n with
          | zero =>
            intro b' h1 h2 h3
            have := Anc_le b' b' y (Nat.le_refl _) (h.par hc h2) h3
            omega
          | succ n ih2 =>
            intro b' h1 h2 h3
            rcases (Anc_iff (h.par hc h2)).mp h3 with z | ⟨z1, z2⟩
            · rw [← z]; exact hap
            · have hpb := h.par hc h2 b' (Nat.le_refl _) z1
              exact (Anc_iff (h.par hc h2)).mpr (Or.inr ⟨z1, ih2 (dpa D c b') (by omega) (by omega) z2⟩)
        have hbp := htr b b (Nat.le_refl _) hb hanc
        have hle1 := hmax (dpa D c y) hbp hpy
        have hqp : q = dpa D c y := by
          rcases hqy with z | z
          · have ha := Anc_tot b b y q (Nat.le_refl _) hpar hanc hq z
            rcases (Anc_iff hpary).mp ha with w | ⟨-, w⟩
            · omega
            · have := Anc_le (dpa D c y) (dpa D c y) q (Nat.le_refl _) (h.par hc (show dpa D c y < dnb D c by omega)) w
              omega
          · omega
        rw [hqp] at hs
        obtain ⟨C2, C3, y9, r1, r2, r3, r4⟩ := rBlock h hc hyn (by omega) hf hs (24 * c + b) c (nI (alen 2002)) (nI y)
        obtain ⟨y', C', i1, i2, i3⟩ := ih (y + 1) y C3 (by omega) r3 r4 hanc (Or.inl (by omega)) (fun x _ hx => by omega)
        refine ⟨y', C', hst _ ?_, i2, i3⟩
        rw [if_neg one_n0, r1, Option.bind_some, r2, Option.bind_some]
        exact i1
    · rw [f2] at hst
      obtain ⟨y', C', i1, i2, i3⟩ := ih (y + 1) q C (by omega) hf hs hq (by omega) (fun x hx hxy => by
        by_cases z : x = y
        · exact absurd ⟨hb, z ▸ hx⟩ f1
        · exact hmax x hx (by omega))
      exact ⟨y', C', hst _ ((if_pos rfl).trans i1), i2, i3⟩
