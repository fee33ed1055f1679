theorem missing0 {M : XO} {x y : Int32} {r : Int32} (h : fX11_isBlock M x y = some r) : fX11_missing M x y 0 = some 1 := by
  unfold fX11_missing
  rw [ob_s h]
  by_cases hr : r = 0
  · rw [if_pos hr]; rfl
  · rw [if_neg hr, if_pos rfl]; rfl
/-- an account in the state of a block -/
theorem dSt {D : XD} {C M : XO} (h : RGD D C M) (x y a : Int32) : (∃ c b k, c < 2 ∧ b < dnb D c ∧ k < 16 ∧ x = nI c ∧ y = nI b ∧ a = nI k ∧ eX10_demandState_ C 0 x y a = none ∧ rX10_demandState_ C 0 x y a = 24 * c + b ∧ fX11_in M a 0 15 = some 1 ∧ fX11_missing M x y 1 = some 0) ∨ (eX10_demandState_ C 0 x y a = some xIO ∧ ∃ r, (r = 0 ∨ r = 1) ∧ fX11_in M a 0 15 = some r ∧ fX11_missing M x y r = some 1 ∧ fX11_missing M x y 0 = some 1) ∨ (eX10_demandState_ C 0 x y a = some xIS ∧ fX11_in M a 0 15 = some 1 ∧ fX11_missing M x y 1 = some 2 ∧ fX11_missing M x y 0 = some 1) := by
  have e15 : (15 : Int32) = nI 16 - 1 := by decide
  rcases dBlk h.NB x y with ⟨c, b, hc, hb, rfl, rfl, e1, e2, e3⟩ | ⟨e1, e2⟩
  · obtain ⟨hb2, hg⟩ := blk48 h.NB hc hb
    obtain ⟨g1, g2, g3⟩ := inB_24 hc hb2
    rcases eIdx (M := M) (x := a) (n := 16) (by decide) with ⟨⟨k, hk, rfl⟩, e4⟩ | ⟨hj, e4⟩
    · have e5 : eX10_demandIndex C (nI k) 16 = none := cIdx1 (n := 16) hk (by decide)
      have hd : xI M 2126 0 (24 * c + b) = xI C 13 (24 * c + b) 0 := (h.B2 _ hg).2.2.2.2.2.2.2.1.symm
      rcases (h.DR _ hg).1 with hdr | hdr
      · refine Or.inl ⟨c, b, k, hc, hb, hk, rfl, rfl, rfl, ?_, ?_, by rw [e15]; exact e4, ?_⟩
        · unfold eX10_demandState_
          rw [if_pos e2, if_pos e5, e3, if_pos hdr]
        · unfold rX10_demandState_
          rw [if_pos e2, if_pos e5, e3, if_pos hdr]
        · unfold fX11_missing
          rw [ob_s e1]
          simp only [one_n0, if_false, if_pos g1, g3, hd, hdr]
          rfl
      · refine Or.inr (Or.inr ⟨?_, by rw [e15]; exact e4, ?_, missing0 e1⟩)
        · unfold eX10_demandState_
          rw [if_pos e2, if_pos e5, e3, hdr, if_neg one_n0]
          rfl
        · unfold fX11_missing
          rw [ob_s e1]
          simp only [one_n0, if_false, if_pos g1, g3, hd, hdr, if_true]
          rfl
    · refine Or.inr (Or.inl ⟨?_, 0, Or.inl rfl, by rw [e15]; exact e4, missing0 e1, missing0 e1⟩)
      unfold eX10_demandState_
      rw [if_pos e2, show eX10_demandIndex C a 16 = some xIO from cIdx0 (y := nI 16) hj, if_neg (by simp)]
  · rcases eIdx (M := M) (x := a) (n := 16) (by decide) with ⟨⟨k, hk, rfl⟩, e4⟩ | ⟨hj, e4⟩
    · refine Or.inr (Or.inl ⟨?_, 1, Or.inr rfl, by rw [e15]; exact e4, ?_, missing0 e1⟩)
      · unfold eX10_demandState_
        rw [e2, if_neg (by simp)]
      · unfold fX11_missing
        rw [ob_s e1, if_pos rfl]
        rfl
    · refine Or.inr (Or.inl ⟨?_, 0, Or.inl rfl, by rw [e15]; exact e4, missing0 e1, missing0 e1⟩)
      unfold eX10_demandState_
      rw [e2, if_neg (by simp)]
theorem inU {M : XO} {x a b : Int32} {v : Int64} {r : Option Int32} (h : fX11_in M x a b = r) : fX11_in (uL M 2017 0 0 v) x a b = r := by rw [eIn] at h ⊢; exact h
theorem missU {M : XO} {x y r : Int32} {v : Int64} {q : Option Int32} (h : fX11_missing M x y r = q) : fX11_missing (uL M 2017 0 0 v) x y r = q := h
/-- where a state's numbers lie -/
theorem inB_s {c b q : Nat} (hc : c < 2) (hb : b < 24) (hq : q < 120) : inB (((120 : Int32) * ((24 : Int32) * nI c + nI b)) + nI q) 5760 ∧ (((120 : Int32) * ((24 : Int32) * nI c + nI b)) + nI q) = nI (120 * (24 * c + b) + q) := by
  have e : (((120 : Int32) * ((24 : Int32) * nI c + nI b)) + nI q) = nI (120 * (24 * c + b) + q) := by
    rw [(inB_24 hc hb).2.1, show (120 : Int32) = nI 120 from rfl, nI_mul, nI_add]
  rw [e]
  exact ⟨inB_nI (by omega) (by omega), rfl⟩
theorem n_at (M : XO) (x y : Int32) : fX11_at M x y = some ((120 : Int32) * (((24 : Int32) * x) + y)) := rfl
theorem ok_coins : OK_coins RG := by
  intro Ω x1 x2 x3 ⟨D, h⟩
  rcases dSt h x1 x2 x3 with ⟨c, b, k, hc, hb, hk, rfl, rfl, rfl, e1, e2, e3, e4⟩ | ⟨e1, r, hr, e3, e4, e5⟩ | ⟨e1, e3, e4, e5⟩
  · obtain ⟨hb2, hg⟩ := blk48 h.NB hc hb
    obtain ⟨k1, k2⟩ := inB_s hc hb2 (show k < 120 by omega)
    obtain ⟨v, hv⟩ : ∃ v, v = xI Ω 2011 (24 * c + b) k := ⟨_, rfl⟩
    have hcell : xI Ω 2100 0 (120 * (24 * c + b) + k) = v := by rw [hv]; exact ((h.ST _ hg).1 k hk).symm
    refine ⟨(.inl (some (.int v)), Ω), (0, uL Ω 2017 0 0 v.toInt64), (v, ans Ω v.toInt64 0), ?_, rfl, ?_, ans_t _ _ _, fun _ => ans_o _ _ _, ⟨D, h.ans _ _⟩⟩
    · unfold fX10_coins
      rw [if_pos e1, e2, sAt_nI (show k < 16 from hk) (by decide), ← hv]
    · unfold fX11_coins
      rw [ob_s (inU e3), ob_s (missU e4)]
      simp only [eHolds0, Option.bind_some, if_true, n_at, if_pos k1]
      rw [k2, nI_clamp (by omega)]
      simp only [I_uI, uL_I, hcell, Nat.reduceEqDiff, false_and, if_false]
      rfl
  · refine ⟨(.inr xIO, Ω), (1, Ω), (-1, uI Ω 1160 0 0 1), ?_, rfl, ?_, thr_t _ _, n10, ⟨D, h.thr _⟩⟩
    · unfold fX10_coins
      rw [e1, if_neg (by simp)]
      rfl
    · unfold fX11_coins
      rw [ob_s e3, ob_s e4]
      simp only [eHolds1, Option.bind_some, one_n0, if_false]
  · refine ⟨(.inr xIS, Ω), (2, Ω), (-1, uI Ω 1160 0 0 2), ?_, rfl, ?_, thr_t _ _, n20, ⟨D, h.thr _⟩⟩
    · unfold fX10_coins
      rw [e1, if_neg (by simp)]
      rfl
    · unfold fX11_coins
      rw [ob_s e3, ob_s e4]
      simp only [eHolds2, Option.bind_some, one_n0, if_false]
theorem ok_burned : OK_burned RG := by
  intro Ω x1 x2 ⟨D, h⟩
  rcases dSt h x1 x2 0 with ⟨c, b, k, hc, hb, hk, rfl, rfl, h0, e1, e2, e3, e4⟩ | ⟨e1, r, hr, e3, e4, e5⟩ | ⟨e1, e3, e4, e5⟩
  · obtain ⟨hb2, hg⟩ := blk48 h.NB hc hb
    obtain ⟨k1, k2⟩ := inB_s hc hb2 (show 112 < 120 by omega)
    obtain ⟨v, hv⟩ : ∃ v, v = xI Ω 604 (24 * c + b) 0 := ⟨_, rfl⟩
    have hcell : xI Ω 2100 0 (120 * (24 * c + b) + 112) = v := by rw [hv]; exact ((h.ST _ hg).2.2.2.2).symm
    refine ⟨(.inl (some (.int v)), Ω), (0, uL Ω 2017 0 0 v.toInt64), (v, ans Ω v.toInt64 0), ?_, rfl, ?_, ans_t _ _ _, fun _ => ans_o _ _ _, ⟨D, h.ans _ _⟩⟩
    · unfold fX10_burned
      rw [if_pos e1, e2, ← hv]
    · unfold fX11_burned
      rw [ob_s (missU e4)]
      simp only [eHolds0, Option.bind_some, if_true, n_at]
      rw [if_pos (show inB ((120 : Int32) * ((24 : Int32) * nI c + nI b) + 112) 5760 from k1), show ((120 : Int32) * ((24 : Int32) * nI c + nI b) + 112) = nI (120 * (24 * c + b) + 112) from k2, nI_clamp (by omega)]
      simp only [I_uI, uL_I, hcell, Nat.reduceEqDiff, false_and, if_false]
      rfl
  · have hr1 : r = 1 := by
      rcases hr with hr | hr
      · rw [hr] at e3
        exact absurd e3 (by rw [eIn]; decide)
      · exact hr
    subst hr1
    refine ⟨(.inr xIO, Ω), (1, Ω), (-1, uI Ω 1160 0 0 1), ?_, rfl, ?_, thr_t _ _, n10, ⟨D, h.thr _⟩⟩
    · unfold fX10_burned
      rw [e1, if_neg (by simp)]
      rfl
    · unfold fX11_burned
      rw [ob_s e4]
      simp only [eHolds1, Option.bind_some, one_n0, if_false]
  · refine ⟨(.inr xIS, Ω), (2, Ω), (-1, uI Ω 1160 0 0 2), ?_, rfl, ?_, thr_t _ _, n20, ⟨D, h.thr _⟩⟩
    · unfold fX10_burned
      rw [e1, if_neg (by simp)]
      rfl
    · unfold fX11_burned
      rw [ob_s e4]
      simp only [eHolds2, Option.bind_some, one_n0, if_false]
theorem ok_codeOf : OK_codeOf RG := by
  intro Ω x1 x2 x3 ⟨D, h⟩
  rcases dSt h x1 x2 x3 with ⟨c, b, k, hc, hb, hk, rfl, rfl, rfl, e1, e2, e3, e4⟩ | ⟨e1, r, hr, e3, e4, e5⟩ | ⟨e1, e3, e4, e5⟩
  · obtain ⟨hb2, hg⟩ := blk48 h.NB hc hb
    obtain ⟨k1, k2⟩ := inB_s hc hb2 (show 16 + k < 120 by omega)
    obtain ⟨l1, l2⟩ := inB_s hc hb2 (show 32 + k < 120 by omega)
    have a1 : (120 : Int32) * ((24 : Int32) * nI c + nI b) + 16 + nI k = (120 : Int32) * ((24 : Int32) * nI c + nI b) + nI (16 + k) := by
      rw [Int32.add_assoc, show (16 : Int32) = nI 16 from rfl, nI_add]
    have a2 : (120 : Int32) * ((24 : Int32) * nI c + nI b) + 32 + nI k = (120 : Int32) * ((24 : Int32) * nI c + nI b) + nI (32 + k) := by
      rw [Int32.add_assoc, show (32 : Int32) = nI 32 from rfl, nI_add]
    obtain ⟨v, hv⟩ : ∃ v, v = (10 : Int32) * xI Ω 2012 (24 * c + b) k + xI Ω 2013 (24 * c + b) k := ⟨_, rfl⟩
    have hc1 : xI Ω 2100 0 (120 * (24 * c + b) + (16 + k)) = xI Ω 2012 (24 * c + b) k := by rw [← Nat.add_assoc]; exact ((h.ST _ hg).2.1 k hk).symm
    have hc2 : xI Ω 2100 0 (120 * (24 * c + b) + (32 + k)) = xI Ω 2013 (24 * c + b) k := by rw [← Nat.add_assoc]; exact ((h.ST _ hg).2.2.1 k hk).symm
    refine ⟨(.inl (some (.int v)), Ω), (0, uL Ω 2017 0 0 v.toInt64), (v, ans Ω v.toInt64 0), ?_, rfl, ?_, ans_t _ _ _, fun _ => ans_o _ _ _, ⟨D, h.ans _ _⟩⟩
    · unfold fX10_codeOf
      rw [if_pos e1, e2, sAt_nI (show k < 16 from hk) (by decide), sAt_nI (show k < 16 from hk) (by decide), ← hv]
    · unfold fX11_codeOf
      rw [ob_s (inU e3), ob_s (missU e4)]
      simp only [eHolds0, Option.bind_some, if_true, n_at, a1, a2, if_pos k1, if_pos l1]
      rw [k2, l2, nI_clamp (by omega), nI_clamp (by omega)]
      simp only [I_uI, uL_I, hc1, hc2, Nat.reduceEqDiff, false_and, if_false, ← hv]
      rfl
  · refine ⟨(.inr xIO, Ω), (1, Ω), (-1, uI Ω 1160 0 0 1), ?_, rfl, ?_, thr_t _ _, n10, ⟨D, h.thr _⟩⟩
    · unfold fX10_codeOf
      rw [e1, if_neg (by simp)]
      rfl
    · unfold fX11_codeOf
      rw [ob_s e3, ob_s e4]
      simp only [eHolds1, Option.bind_some, one_n0, if_false]
  · refine ⟨(.inr xIS, Ω), (2, Ω), (-1, uI Ω 1160 0 0 2), ?_, rfl, ?_, thr_t _ _, n20, ⟨D, h.thr _⟩⟩
    · unfold fX10_codeOf
      rw [e1, if_neg (by simp)]
      rfl
    · unfold fX11_codeOf
      rw [ob_s e3, ob_s e4]
      simp only [eHolds2, Option.bind_some, one_n0, if_false]
theorem ok_slot : OK_slot RG := by
  intro Ω x1 x2 x3 x4 ⟨D, h⟩
  have e3' : (3 : Int32) = nI 4 - 1 := by decide
  rcases eIdx (M := Ω) (x := x4) (n := 4) (by decide) with ⟨⟨s, hs, rfl⟩, e6⟩ | ⟨hj, e6⟩
  · have e7 : eX10_demandIndex Ω (nI s) 4 = none := cIdx1 (n := 4) hs (by decide)
    rcases dSt h x1 x2 x3 with ⟨c, b, k, hc, hb, hk, rfl, rfl, rfl, e1, e2, e3, e4⟩ | ⟨e1, r, hr, e3, e4, e5⟩ | ⟨e1, e3, e4, e5⟩
    · obtain ⟨hb2, hg⟩ := blk48 h.NB hc hb
      obtain ⟨k1, k2⟩ := inB_s hc hb2 (show 48 + (4 * k + s) < 120 by omega)
      have a1 : (120 : Int32) * ((24 : Int32) * nI c + nI b) + 48 + 4 * nI k + nI s = (120 : Int32) * ((24 : Int32) * nI c + nI b) + nI (48 + (4 * k + s)) := by
        rw [Int32.add_assoc, Int32.add_assoc, show (48 : Int32) = nI 48 from rfl, show (4 : Int32) = nI 4 from rfl, nI_mul, nI_add, nI_add]
      have a2 : nI k * 4 + nI s = nI (4 * k + s) := by
        rw [show (4 : Int32) = nI 4 from rfl, nI_mul, nI_add, Nat.mul_comm]
      obtain ⟨v, hv⟩ : ∃ v, v = xI Ω 2014 (24 * c + b) (4 * k + s) := ⟨_, rfl⟩
      have hcell : xI Ω 2100 0 (120 * (24 * c + b) + (48 + (4 * k + s))) = v := by
        rw [hv, ← Nat.add_assoc]
        exact ((h.ST _ hg).2.2.2.1 (4 * k + s) (by omega)).symm
      refine ⟨(.inl (some (.int v)), Ω), (0, uL Ω 2017 0 0 v.toInt64), (v, ans Ω v.toInt64 0), ?_, rfl, ?_, ans_t _ _ _, fun _ => ans_o _ _ _, ⟨D, h.ans _ _⟩⟩
      · unfold fX10_slot
        rw [if_pos e7, if_pos e1, e2, a2, sAt_nI (show 4 * k + s < 64 by omega) (by decide), ← hv]
      · unfold fX11_slot
        rw [ob_s (inU e3), e3']
        simp only [one_n0, if_false, inU e6, Option.bind_some, missU e4, eHolds0, if_true, n_at, a1, if_pos k1]
        rw [k2, nI_clamp (by omega)]
        simp only [I_uI, uL_I, hcell, Nat.reduceEqDiff, false_and, if_false]
        rfl
    · refine ⟨(.inr xIO, Ω), (1, Ω), (-1, uI Ω 1160 0 0 1), ?_, rfl, ?_, thr_t _ _, n10, ⟨D, h.thr _⟩⟩
      · unfold fX10_slot
        rw [if_pos e7, e1, if_neg (by simp)]
        rfl
      · unfold fX11_slot
        rw [ob_s e3, e3']
        rcases hr with rfl | rfl
        · simp only [if_true, Option.bind_some, e4, eHolds1, one_n0, if_false]
        · simp only [one_n0, if_false, e6, Option.bind_some, e4, eHolds1]
    · refine ⟨(.inr xIS, Ω), (2, Ω), (-1, uI Ω 1160 0 0 2), ?_, rfl, ?_, thr_t _ _, n20, ⟨D, h.thr _⟩⟩
      · unfold fX10_slot
        rw [if_pos e7, e1, if_neg (by simp)]
        rfl
      · unfold fX11_slot
        rw [ob_s e3, e3']
        simp only [one_n0, if_false, e6, Option.bind_some, e4, eHolds2]
  · have e7 : eX10_demandIndex Ω x4 4 = some xIO := cIdx0 (y := nI 4) hj
    have e5 : fX11_missing Ω x1 x2 0 = some 1 := by
      rcases dBlk h.NB x1 x2 with ⟨c, b, hc, hb, rfl, rfl, e1, -⟩ | ⟨e1, -⟩ <;> exact missing0 e1
    refine ⟨(.inr xIO, Ω), (1, Ω), (-1, uI Ω 1160 0 0 1), ?_, rfl, ?_, thr_t _ _, n10, ⟨D, h.thr _⟩⟩
    · unfold fX10_slot
      rw [e7, if_neg (by simp)]
      rfl
    · unfold fX11_slot
      rw [ob_s (eIn Ω x3 0 15), e3']
      by_cases q : (if x3 < 0 then (0 : Int32) else if (15 : Int32) < x3 then 0 else 1) = 0
      · rw [← e3'] 
        simp only [q, if_true, Option.bind_some, e5, eHolds1, one_n0, if_false]
      · simp only [q, if_false, e6, Option.bind_some, if_true, e5, eHolds1, one_n0]
