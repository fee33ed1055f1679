theorem one_n0 : ¬ (1 : Int32) = 0 := by decide
theorem one_nl0 : ¬ (1 : Int32) ≤ 0 := by decide
theorem eHolds0 (M : XO) : fX11_holds M 0 = some (0, uI M 1160 0 0 0) := by rw [eHolds]; rfl
theorem eHolds1 (M : XO) : fX11_holds M 1 = some (1, uI M 1160 0 0 1) := by rw [eHolds]; rfl
theorem eHolds2 (M : XO) : fX11_holds M 2 = some (1, uI M 1160 0 0 2) := by rw [eHolds]; rfl
theorem eHolds3 (M : XO) : fX11_holds M 3 = some (1, uI M 1160 0 0 3) := by rw [eHolds]; rfl
theorem n10 {p : Prop} (h : (1 : Int32) = 0) : p := absurd h one_n0
theorem n20 {p : Prop} (h : (2 : Int32) = 0) : p := absurd h (by decide)
theorem n30 {p : Prop} (h : (3 : Int32) = 0) : p := absurd h (by decide)
theorem uL_I (Ω : XO) (v : Int64) (k i j : Nat) : xI (uL Ω 2017 0 0 v) k i j = xI Ω k i j := rfl
theorem blk48 {D : XD} {C M : XO} (h : qNB (dnb D) C M) {c b : Nat} (hc : c < 2) (hb : b < dnb D c) : b < 24 ∧ 24 * c + b < 48 := by
  have := h c hc
  omega
theorem ok_base : OK_base RG := by
  intro Ω x1 x2 ⟨D, h⟩
  rcases dBlk h.NB x1 x2 with ⟨c, b, hc, hb, rfl, rfl, e1, e2, e3⟩ | ⟨e1, e2⟩
  · obtain ⟨hb2, hg⟩ := blk48 h.NB hc hb
    obtain ⟨g1, g2, g3⟩ := inB_24 hc hb2
    obtain ⟨v, hv⟩ : ∃ v, v = xI Ω 5 (24 * c + b) 0 := ⟨_, rfl⟩
    have hcell : xI Ω 2124 0 (24 * c + b) = v := by rw [hv]; exact (h.BS c hc b hb).symm
    refine ⟨(.inl (some (.int v)), Ω), (0, uL Ω 2017 0 0 v.toInt64), (v, ans Ω v.toInt64 0), ?_, rfl, ?_, ans_t _ _ _, fun _ => ans_o _ _ _, ⟨D, h.ans _ _⟩⟩
    · unfold fX10_base
      rw [if_pos e2, e3, ← hv]
    · have e1' : fX11_isBlock (uL Ω 2017 0 0 v.toInt64) (nI c) (nI b) = some 1 := eBlk1 (C := Ω) h.NB hc hb
      unfold fX11_base wl
      rw [ob_s e1']
      simp only [one_n0, if_false, eHolds0, Option.bind_some, if_true, if_pos g1, g3, I_uI, uL_I, hcell, Nat.reduceEqDiff, false_and]
      rfl
  · refine ⟨(.inr xIO, Ω), (1, Ω), (-1, uI Ω 1160 0 0 1), ?_, rfl, ?_, thr_t _ _, n10, ⟨D, h.thr _⟩⟩
    · unfold fX10_base
      rw [e2, if_neg (by simp)]
      rfl
    · unfold fX11_base wl
      rw [ob_s e1]
      simp only [if_true, eHolds1, Option.bind_some, one_n0, if_false]
theorem ok_used : OK_used RG := by
  intro Ω x1 x2 ⟨D, h⟩
  rcases dBlk h.NB x1 x2 with ⟨c, b, hc, hb, rfl, rfl, e1, e2, e3⟩ | ⟨e1, e2⟩
  · obtain ⟨hb2, hg⟩ := blk48 h.NB hc hb
    obtain ⟨g1, g2, g3⟩ := inB_24 hc hb2
    obtain ⟨v, hv⟩ : ∃ v, v = xI Ω 6 (24 * c + b) 0 := ⟨_, rfl⟩
    have hcell : xI Ω 2125 0 (24 * c + b) = v := by rw [hv]; exact (h.B2 _ hg).2.2.1.symm
    refine ⟨(.inl (some (.int v)), Ω), (0, uL Ω 2017 0 0 v.toInt64), (v, ans Ω v.toInt64 0), ?_, rfl, ?_, ans_t _ _ _, fun _ => ans_o _ _ _, ⟨D, h.ans _ _⟩⟩
    · unfold fX10_used
      rw [if_pos e2, e3, ← hv]
    · have e1' : fX11_isBlock (uL Ω 2017 0 0 v.toInt64) (nI c) (nI b) = some 1 := eBlk1 (C := Ω) h.NB hc hb
      unfold fX11_used wl
      rw [ob_s e1']
      simp only [one_n0, if_false, eHolds0, Option.bind_some, if_true, if_pos g1, g3, I_uI, uL_I, hcell, Nat.reduceEqDiff, false_and]
      rfl
  · refine ⟨(.inr xIO, Ω), (1, Ω), (-1, uI Ω 1160 0 0 1), ?_, rfl, ?_, thr_t _ _, n10, ⟨D, h.thr _⟩⟩
    · unfold fX10_used
      rw [e2, if_neg (by simp)]
      rfl
    · unfold fX11_used wl
      rw [ob_s e1]
      simp only [if_true, eHolds1, Option.bind_some, one_n0, if_false]
theorem ok_bloom : OK_bloom RG := by
  intro Ω x1 x2 ⟨D, h⟩
  rcases dBlk h.NB x1 x2 with ⟨c, b, hc, hb, rfl, rfl, e1, e2, e3⟩ | ⟨e1, e2⟩
  · obtain ⟨hb2, hg⟩ := blk48 h.NB hc hb
    obtain ⟨g1, g2, g3⟩ := inB_24 hc hb2
    obtain ⟨v, hv⟩ : ∃ v, v = xI Ω 11 (24 * c + b) 0 := ⟨_, rfl⟩
    have hcell : xI Ω 2128 0 (24 * c + b) = v := by rw [hv]; exact (h.B2 _ hg).2.2.2.2.2.1.symm
    refine ⟨(.inl (some (.int v)), Ω), (0, uL Ω 2017 0 0 v.toInt64), (v, ans Ω v.toInt64 0), ?_, rfl, ?_, ans_t _ _ _, fun _ => ans_o _ _ _, ⟨D, h.ans _ _⟩⟩
    · unfold fX10_bloom
      rw [if_pos e2, e3, ← hv]
    · have e1' : fX11_isBlock (uL Ω 2017 0 0 v.toInt64) (nI c) (nI b) = some 1 := eBlk1 (C := Ω) h.NB hc hb
      unfold fX11_bloom wl
      rw [ob_s e1']
      simp only [one_n0, if_false, eHolds0, Option.bind_some, if_true, if_pos g1, g3, I_uI, uL_I, hcell, Nat.reduceEqDiff, false_and]
      rfl
  · refine ⟨(.inr xIO, Ω), (1, Ω), (-1, uI Ω 1160 0 0 1), ?_, rfl, ?_, thr_t _ _, n10, ⟨D, h.thr _⟩⟩
    · unfold fX10_bloom
      rw [e2, if_neg (by simp)]
      rfl
    · unfold fX11_bloom wl
      rw [ob_s e1]
      simp only [if_true, eHolds1, Option.bind_some, one_n0, if_false]
theorem ok_root : OK_root RG := by
  intro Ω x1 x2 ⟨D, h⟩
  rcases dBlk h.NB x1 x2 with ⟨c, b, hc, hb, rfl, rfl, e1, e2, e3⟩ | ⟨e1, e2⟩
  · obtain ⟨hb2, hg⟩ := blk48 h.NB hc hb
    obtain ⟨g1, g2, g3⟩ := inB_24 hc hb2
    obtain ⟨v, hv⟩ : ∃ v, v = xI Ω 12 (24 * c + b) 0 := ⟨_, rfl⟩
    have hcell : xI Ω 2127 0 (24 * c + b) = v := by rw [hv]; exact (h.B2 _ hg).2.2.2.2.2.2.1.symm
    refine ⟨(.inl (some (.int v)), Ω), (0, uL Ω 2017 0 0 v.toInt64), (v, ans Ω v.toInt64 0), ?_, rfl, ?_, ans_t _ _ _, fun _ => ans_o _ _ _, ⟨D, h.ans _ _⟩⟩
    · unfold fX10_root
      rw [if_pos e2, e3, ← hv]
    · have e1' : fX11_isBlock (uL Ω 2017 0 0 v.toInt64) (nI c) (nI b) = some 1 := eBlk1 (C := Ω) h.NB hc hb
      unfold fX11_root wl
      rw [ob_s e1']
      simp only [one_n0, if_false, eHolds0, Option.bind_some, if_true, if_pos g1, g3, I_uI, uL_I, hcell, Nat.reduceEqDiff, false_and]
      rfl
  · refine ⟨(.inr xIO, Ω), (1, Ω), (-1, uI Ω 1160 0 0 1), ?_, rfl, ?_, thr_t _ _, n10, ⟨D, h.thr _⟩⟩
    · unfold fX10_root
      rw [e2, if_neg (by simp)]
      rfl
    · unfold fX11_root wl
      rw [ob_s e1]
      simp only [if_true, eHolds1, Option.bind_some, one_n0, if_false]
theorem inB_40 {c b j : Nat} (hc : c < 2) (hb : b < 24) (hj : j < 40) : inB ((40 : Int32) * ((24 : Int32) * nI c + nI b) + nI j) 1920 ∧ ((40 : Int32) * ((24 : Int32) * nI c + nI b) + nI j).toNatClampNeg = 40 * (24 * c + b) + j := by
  have e : ((40 : Int32) * ((24 : Int32) * nI c + nI b) + nI j) = nI (40 * (24 * c + b) + j) := by
    rw [(inB_24 hc hb).2.1, show (40 : Int32) = nI 40 from rfl, nI_mul, nI_add]
  rw [e]
  exact ⟨inB_nI (by omega) (by omega), nI_clamp (by omega)⟩
/-- a number from 0 to a count less 1 -/
theorem eIdx {M : XO} {x : Int32} {n : Nat} (hn : n < 2147483648) : ((∃ k, k < n ∧ x = nI k) ∧ fX11_in M x 0 (nI n - 1) = some 1) ∨ ((x < 0 ∨ nI n ≤ x) ∧ fX11_in M x 0 (nI n - 1) = some 0) := by
  have e0 : (0 : Int32).toInt = 0 := rfl
  have e1 : (1 : Int32).toInt = 1 := rfl
  have en := ti_nI (n := n) hn
  have em : (nI n - 1).toInt = n - 1 := by rw [ti_sub (by rw [en, e1]; omega) (by rw [en, e1]; omega), en, e1]
  rcases dix x hn with ⟨k, hk, rfl⟩ | hx
  · have ek := ti_nI (n := k) (by omega)
    exact Or.inl ⟨⟨k, hk, rfl⟩, eIn1 (by rw [ti_lt, ek, e0]; omega) (by rw [ti_lt, ek, em]; omega)⟩
  · refine Or.inr ⟨hx, eIn0 ?_⟩
    rcases hx with hx | hx
    · exact Or.inl hx
    · refine Or.inr ?_
      rw [ti_le, en] at hx
      rw [ti_lt, em]
      omega
theorem sAt_nI {Ω : XO} {k i j : Nat} (hj : j < alen k) (hk : alen k < 2147483648) : sAt Ω k i (nI j) = xI Ω k i j := by
  unfold sAt
  rw [if_neg (nI_nlt0 (by omega)), if_neg (nI_ge hj hk), cl_nI (by omega)]
theorem toNN {x : Int32} (h : 0 ≤ x.toInt) : ∃ n : Nat, x = nI n ∧ n < 2147483648 ∧ x.toInt = n := by
  obtain ⟨n, h1, h2, h3⟩ := toI_nI h
  exact ⟨n, h2, h1, h3⟩
theorem ok_transactionAt : OK_transactionAt RG := by
  intro Ω x1 x2 x3 ⟨D, h⟩
  rcases dBlk h.NB x1 x2 with ⟨c, b, hc, hb, rfl, rfl, e1, e2, e3⟩ | ⟨e1, e2⟩
  · obtain ⟨hb2, hg⟩ := blk48 h.NB hc hb
    obtain ⟨g1, g2, g3⟩ := inB_24 hc hb2
    obtain ⟨r1, r2, r3, r4⟩ := (h.RC c hc b hb2).1
    obtain ⟨n, hn, hn2, hn3⟩ := toNN r1
    have hm : xI Ω 2129 0 (24 * c + b) = nI n := by rw [← hn]; exact ((h.B2 _ hg).2.2.2.1).symm
    have hn4 : n ≤ 40 := by omega
    rcases eIdx (M := Ω) (x := x3) hn2 with ⟨⟨j, hj, rfl⟩, e4⟩ | ⟨hj, e4⟩
    · obtain ⟨k1, k2⟩ := inB_40 hc hb2 (show j < 40 by omega)
      obtain ⟨v, hv⟩ : ∃ v, v = xI Ω 2000 (24 * c + b) j := ⟨_, rfl⟩
      have hcell : xI Ω 2131 0 (40 * (24 * c + b) + j) = v := by rw [hv]; exact (h.RW _ hg j (by omega)).symm
      have e4' : fX11_in (uL Ω 2017 0 0 v.toInt64) (nI j) 0 (nI n - 1) = some 1 := by rw [eIn] at e4 ⊢; exact e4
      refine ⟨(.inl (some (.int v)), Ω), (0, uL Ω 2017 0 0 v.toInt64), (v, ans Ω v.toInt64 0), ?_, rfl, ?_, ans_t _ _ _, fun _ => ans_o _ _ _, ⟨D, h.ans _ _⟩⟩
      · unfold fX10_transactionAt
        rw [if_pos e2, e3, hn, if_pos (cIdx1 hj hn2), sAt_nI (show j < 40 by omega) (by decide), ← hv]
      · have e1' : fX11_isBlock (uL Ω 2017 0 0 v.toInt64) (nI c) (nI b) = some 1 := eBlk1 (C := Ω) h.NB hc hb
        unfold fX11_transactionAt wl
        rw [ob_s e1']
        simp only [one_n0, if_false, eHolds0, Option.bind_some, if_true, if_pos g1, g3, if_pos k1, k2, I_uI, uL_I, hcell, hm, e4', Nat.reduceEqDiff, false_and]
        rfl
    · refine ⟨(.inr xIO, Ω), (1, Ω), (-1, uI Ω 1160 0 0 1), ?_, rfl, ?_, thr_t _ _, n10, ⟨D, h.thr _⟩⟩
      · unfold fX10_transactionAt
        rw [if_pos e2, e3, hn, cIdx0 hj, if_neg (by simp)]
        rfl
      · unfold fX11_transactionAt wl
        rw [ob_s e1]
        simp only [if_true, eHolds1, Option.bind_some, one_n0, if_false, if_pos g1, g3, hm, e4]
  · refine ⟨(.inr xIO, Ω), (1, Ω), (-1, uI Ω 1160 0 0 1), ?_, rfl, ?_, thr_t _ _, n10, ⟨D, h.thr _⟩⟩
    · unfold fX10_transactionAt
      rw [e2, if_neg (by simp)]
      rfl
    · unfold fX11_transactionAt wl
      rw [ob_s e1]
      simp only [if_true, eHolds1, Option.bind_some, one_n0, if_false]
theorem ok_eventAt : OK_eventAt RG := by
  intro Ω x1 x2 x3 ⟨D, h⟩
  rcases dBlk h.NB x1 x2 with ⟨c, b, hc, hb, rfl, rfl, e1, e2, e3⟩ | ⟨e1, e2⟩
  · obtain ⟨hb2, hg⟩ := blk48 h.NB hc hb
    obtain ⟨g1, g2, g3⟩ := inB_24 hc hb2
    obtain ⟨r1, r2, r3, r4⟩ := (h.RC c hc b hb2).1
    obtain ⟨n, hn, hn2, hn3⟩ := toNN r3
    have hm : xI Ω 2130 0 (24 * c + b) = nI n := by rw [← hn]; exact ((h.B2 _ hg).2.2.2.2.1).symm
    have hn4 : n ≤ 40 := by omega
    rcases eIdx (M := Ω) (x := x3) hn2 with ⟨⟨j, hj, rfl⟩, e4⟩ | ⟨hj, e4⟩
    · obtain ⟨k1, k2⟩ := inB_40 hc hb2 (show j < 40 by omega)
      obtain ⟨v, hv⟩ : ∃ v, v = xI Ω 2001 (24 * c + b) j := ⟨_, rfl⟩
      have hcell : xI Ω 2132 0 (40 * (24 * c + b) + j) = v := by rw [hv]; exact (h.EV _ hg j (by omega) (by omega)).symm
      have e4' : fX11_in (uL Ω 2017 0 0 v.toInt64) (nI j) 0 (nI n - 1) = some 1 := by rw [eIn] at e4 ⊢; exact e4
      refine ⟨(.inl (some (.int v)), Ω), (0, uL Ω 2017 0 0 v.toInt64), (v, ans Ω v.toInt64 0), ?_, rfl, ?_, ans_t _ _ _, fun _ => ans_o _ _ _, ⟨D, h.ans _ _⟩⟩
      · unfold fX10_eventAt
        rw [if_pos e2, e3, hn, if_pos (cIdx1 hj hn2), sAt_nI (show j < 40 by omega) (by decide), ← hv]
      · have e1' : fX11_isBlock (uL Ω 2017 0 0 v.toInt64) (nI c) (nI b) = some 1 := eBlk1 (C := Ω) h.NB hc hb
        unfold fX11_eventAt wl
        rw [ob_s e1']
        simp only [one_n0, if_false, eHolds0, Option.bind_some, if_true, if_pos g1, g3, if_pos k1, k2, I_uI, uL_I, hcell, hm, e4', Nat.reduceEqDiff, false_and]
        rfl
    · refine ⟨(.inr xIO, Ω), (1, Ω), (-1, uI Ω 1160 0 0 1), ?_, rfl, ?_, thr_t _ _, n10, ⟨D, h.thr _⟩⟩
      · unfold fX10_eventAt
        rw [if_pos e2, e3, hn, cIdx0 hj, if_neg (by simp)]
        rfl
      · unfold fX11_eventAt wl
        rw [ob_s e1]
        simp only [if_true, eHolds1, Option.bind_some, one_n0, if_false, if_pos g1, g3, hm, e4]
  · refine ⟨(.inr xIO, Ω), (1, Ω), (-1, uI Ω 1160 0 0 1), ?_, rfl, ?_, thr_t _ _, n10, ⟨D, h.thr _⟩⟩
    · unfold fX10_eventAt
      rw [e2, if_neg (by simp)]
      rfl
    · unfold fX11_eventAt wl
      rw [ob_s e1]
      simp only [if_true, eHolds1, Option.bind_some, one_n0, if_false]
theorem ok_isJustified : OK_isJustified RG := by
  intro Ω x1 x2 ⟨D, h⟩
  rcases dBlk h.NB x1 x2 with ⟨c, b, hc, hb, rfl, rfl, e1, e2, e3⟩ | ⟨e1, e2⟩
  · obtain ⟨hb2, hg⟩ := blk48 h.NB hc hb
    obtain ⟨g1, g2, g3⟩ := inB_24 hc hb2
    have hj := (h.DR _ hg).2
    have hcell : xI Ω 2133 0 (24 * c + b) = xI Ω 14 (24 * c + b) 0 := (h.B2 _ hg).2.2.2.2.2.2.2.2.symm
    have hcl : fX10_isJustified Ω (nI c) (nI b) = some (.inl (some (.int (xI Ω 14 (24 * c + b) 0))), Ω) := by
      unfold fX10_isJustified
      rw [if_pos e2, e3, if_pos hj]
    rcases hj with hj | hj
    · have e1' : fX11_isBlock (uL Ω 2017 0 0 0) (nI c) (nI b) = some 1 := eBlk1 (C := Ω) h.NB hc hb
      refine ⟨_, (0, uL Ω 2017 0 0 0), (0, ans Ω 0 0), hcl, by rw [hj]; rfl, ?_, ans_t _ _ _, fun _ => ans_o _ _ _, ⟨D, h.ans _ _⟩⟩
      unfold fX11_isJustified wl
      rw [ob_s e1']
      simp only [one_n0, if_false, eHolds0, Option.bind_some, if_true, if_pos g1, g3, I_uI, uL_I, hcell, hj, Nat.reduceEqDiff, false_and]
      rfl
    · have e1' : fX11_isBlock (uL Ω 2017 0 0 1) (nI c) (nI b) = some 1 := eBlk1 (C := Ω) h.NB hc hb
      refine ⟨_, (0, uL Ω 2017 0 0 1), (1, ans Ω 1 0), hcl, by rw [hj]; rfl, ?_, ans_t _ _ _, fun _ => ans_o _ _ _, ⟨D, h.ans _ _⟩⟩
      unfold fX11_isJustified wl
      rw [ob_s e1']
      simp only [one_n0, if_false, eHolds0, Option.bind_some, if_true, if_pos g1, g3, I_uI, uL_I, hcell, hj, Nat.reduceEqDiff, false_and]
      rfl
  · refine ⟨(.inr xIO, Ω), (1, Ω), (0, uI Ω 1160 0 0 1), ?_, rfl, ?_, thr_t _ _, n10, ⟨D, h.thr _⟩⟩
    · unfold fX10_isJustified
      rw [e2, if_neg (by simp)]
      rfl
    · unfold fX11_isJustified wl
      rw [ob_s e1]
      simp only [if_true, eHolds1, Option.bind_some, one_n0, if_false]
      rfl
theorem nB_I {D : XD} {C M : XO} (h : RGD D C M) {c b : Nat} (hc : c < 2) (hb : b < 24) : fX1_numberedBlock C c (nI b) = 24 * c + b := by
  unfold fX1_numberedBlock
  rw [if_neg (nI_nlt0 (by omega)), if_neg (show ¬ (24 : Int32) ≤ nI b from nI_ge (b := 24) (by omega) (by decide)), cl_nI (by omega)]
theorem lF_I {D : XD} {C M : XO} (h : RGD D C M) {c : Nat} (hc : c < 2) : fX1_lastFinalBlock C c = 24 * c + dfn D c := by
  obtain ⟨h1, h2, h3⟩ := h.FN c hc
  have := (h.NB c hc).2.2.2
  unfold fX1_lastFinalBlock
  rw [h1]
  exact nB_I h hc (by omega)
theorem ok_lastFinal : OK_lastFinal RG := by
  intro Ω x1 ⟨D, h⟩
  rcases dCh Ω Ω x1 with ⟨c, hc, rfl, e1, e2, e3⟩ | ⟨e1, e2⟩
  · obtain ⟨f1, f2, f3⟩ := h.FN c hc
    have hnb := (h.NB c hc).2.2.2
    have hv : xI Ω 0 (24 * c + dfn D c) 0 = nI (dfn D c) := by
      rw [h.NO _ (show 24 * c + dfn D c < 48 by omega), show (24 * c + dfn D c) % 24 = dfn D c by omega]
    obtain ⟨v, hv0⟩ : ∃ v, v = nI (dfn D c) := ⟨_, rfl⟩
    rw [← hv0] at hv f2
    refine ⟨(.inl (some (.int v)), Ω), (0, uL Ω 2017 0 0 v.toInt64), (v, ans Ω v.toInt64 0), ?_, rfl, ?_, ans_t _ _ _, fun _ => ans_o _ _ _, ⟨D, h.ans _ _⟩⟩
    · unfold fX10_lastFinal
      rw [if_pos e2, e3, lF_I h hc, hv]
    · unfold fX11_lastFinal wl
      rw [ob_s (eChain1 hc)]
      simp only [one_n0, if_false, eHolds0, Option.bind_some, if_true, if_pos (inB_nI hc (show 2 < 2147483648 by decide)), cl_nI (show c < 2147483648 by omega), I_uI, uL_I, f2, Nat.reduceEqDiff, false_and]
      rfl
  · refine ⟨(.inr xIO, Ω), (1, Ω), (-1, uI Ω 1160 0 0 1), ?_, rfl, ?_, thr_t _ _, n10, ⟨D, h.thr _⟩⟩
    · unfold fX10_lastFinal
      rw [e2, if_neg (by simp)]
      rfl
    · unfold fX11_lastFinal wl
      rw [ob_s e1]
      simp only [if_true, eHolds1, Option.bind_some, one_n0, if_false]
theorem inB_4 {c v : Nat} (hc : c < 2) (hv : v < 4) : inB ((4 : Int32) * nI c + nI v) 8 ∧ ((4 : Int32) * nI c + nI v) = nI (4 * c + v) ∧ ((4 : Int32) * nI c + nI v).toNatClampNeg = 4 * c + v := by
  have e : ((4 : Int32) * nI c + nI v) = nI (4 * c + v) := by
    rw [show (4 : Int32) = nI 4 from rfl, nI_mul, nI_add]
  exact ⟨by rw [e]; exact inB_nI (by omega) (by omega), e, by rw [e]; exact nI_clamp (by omega)⟩
theorem ok_stake : OK_stake RG := by
  intro Ω x1 x2 ⟨D, h⟩
  rcases dCh Ω Ω x1 with ⟨c, hc, rfl, e1, e2, e3⟩ | ⟨e1, e2⟩
  · have e3' : (3 : Int32) = nI 4 - 1 := by decide
    rcases eIdx (M := Ω) (x := x2) (n := 4) (by decide) with ⟨⟨v, hv, rfl⟩, e4⟩ | ⟨hj, e4⟩
    · obtain ⟨g1, g2, g3⟩ := inB_4 hc hv
      have hval : fX2_validator Ω c (nI v) = 4 * c + v := by
        unfold fX2_validator
        rw [if_neg (nI_nlt0 (by omega)), if_neg (show ¬ (4 : Int32) ≤ nI v from nI_ge (b := 4) hv (by decide)), cl_nI (by omega)]
      obtain ⟨s, hs⟩ : ∃ s, s = fX8_stakeNow Ω (4 * c + v) := ⟨_, rfl⟩
      have hcell : xI Ω 2139 0 (4 * c + v) = s := by
        rw [hs]
        unfold fX8_stakeNow
        rcases (h.VA (4 * c + v) (by omega)).2 with ⟨p1, p2⟩ | ⟨p1, p2⟩
        · rw [p1, if_pos rfl, p2]
        · rw [p1, if_neg one_n0, p2]
      have e4' : fX11_in (uL Ω 2017 0 0 s.toInt64) (nI v) 0 (nI 4 - 1) = some 1 := by rw [eIn] at e4 ⊢; exact e4
      refine ⟨(.inl (some (.int s)), Ω), (0, uL Ω 2017 0 0 s.toInt64), (s, ans Ω s.toInt64 0), ?_, rfl, ?_, ans_t _ _ _, fun _ => ans_o _ _ _, ⟨D, h.ans _ _⟩⟩
      · unfold fX10_stake
        rw [if_pos e2, e3, if_pos (show eX10_demandIndex Ω (nI v) 4 = none from cIdx1 (n := 4) hv (by decide)), hval, ← hs]
      · unfold fX11_stake
        rw [ob_s (eChain1 hc), e3']
        simp only [one_n0, if_false, eHolds0, Option.bind_some, if_true, if_pos g1, g3, I_uI, uL_I, hcell, e4', Nat.reduceEqDiff, false_and]
        rfl
    · refine ⟨(.inr xIO, Ω), (1, Ω), (-1, uI Ω 1160 0 0 1), ?_, rfl, ?_, thr_t _ _, n10, ⟨D, h.thr _⟩⟩
      · unfold fX10_stake
        rw [if_pos e2, show (4 : Int32) = nI 4 from rfl, cIdx0 hj, if_neg (by simp)]
        rfl
      · unfold fX11_stake
        rw [ob_s e1, e3']
        simp only [if_true, eHolds1, Option.bind_some, one_n0, if_false, e4]
  · refine ⟨(.inr xIO, Ω), (1, Ω), (-1, uI Ω 1160 0 0 1), ?_, rfl, ?_, thr_t _ _, n10, ⟨D, h.thr _⟩⟩
    · unfold fX10_stake
      rw [e2, if_neg (by simp)]
      rfl
    · unfold fX11_stake
      rw [ob_s e1]
      simp only [if_true, eHolds1, Option.bind_some, one_n0, if_false]
