theorem missing0 {M : XO} {x y : Int32} {r : Int32} (h : fX11_isBlock M x y = some r) : fX11_missing M x y 0 = some 1 := by
  unfold fX11_missing
  rw [ob_s h]
  by_cases hr : r = 0
  · rw [if_pos hr]; rfl
  · rw [if_neg hr, if_pos rfl]; rfl
/-- an account in the state of a block -/
theorem dSt {D : XD} {C M : XO} (h : RGD D C M) (x y a : Int32) : (∃ c b k, c < 2 ∧ b < dnb D c ∧ k < 16 ∧ x = nI c ∧ y = nI b ∧ a = nI k ∧ eX10_demandState_ C 0 x y a = none ∧ rX10_demandState_ C 0 x y a = 24 * c + b ∧ fX11_in M a 0 15 = some 1 ∧ fX11_missing M x y 1 = some 0) ∨ (eX10_demandState_ C 0 x y a = some xIO ∧ ∃ r, (r = 0 ∨ r = 1) ∧ fX11_in M a 0 15 = some r ∧ fX11_missing M x y r = some 1 ∧ fX11_missing M x y 0 = some 1) ∨ (eX10_demandState_ C 0 x y a = some xIS ∧ fX11_in M a 0 15 = some 1 ∧ fX11_missing M x y 1 = some 2 ∧ fX11_missing M x y 0 = some 1) := by
  have e15 : (15 : Int32) = nI 16 - 1 := by decide
  rcases dBlk h.NB x y with ⟨c, b, hc, hb, rfl, rfl, e1, e2, e3⟩ | ⟨e1, e2⟩
  · obtain ⟨hb2, hg⟩ := blk48 h.NB hc hb
    obtain ⟨g1, g2, g3⟩ := inB_24 hc hb2
    rcases eIdx (M := M) (x := a) (n := 16) (by decide) with ⟨⟨k, hk, rfl⟩, e4⟩ | ⟨hj, e4⟩
    · have e5 : eX10_demandIndex C (nI k) 16 = none := cIdx1 (n := 16) hk (by decide)
      have hd : xI M 2126 0 (24 * c + b) = xI C 13 (24 * c + b) 0 := (h.B2 _ hg).2.2.2.2.2.2.2.1.symm
      rcases (h.DR _ hg).1 with hdr | hdr
      · refine Or.inl ⟨c, b, k, hc, hb, hk, rfl, rfl, rfl, ?_, ?_, by rw [e15]; exact e4, ?_⟩
        · unfold eX10_demandState_
          rw [if_pos e2, if_pos e5, e3, if_pos hdr]
        · unfold rX10_demandState_
          rw [if_pos e2, if_pos e5, e3, if_pos hdr]
        · unfold fX11_missing
          rw [ob_s e1]
          simp only [one_n0, if_false, if_pos g1, g3, hd, hdr]
          rfl
      · refine Or.inr (Or.inr ⟨?_, by rw [e15]; exact e4, ?_, missing0 e1⟩)
        · unfold eX10_demandState_
          rw [if_pos e2, if_pos e5, e3, hdr, if_neg one_n0]
          rfl
        · unfold fX11_missing
          rw [ob_s e1]
          simp only [one_n0, if_false, if_pos g1, g3, hd, hdr, if_true]
          rfl
    · refine Or.inr (Or.inl ⟨?_, 0, Or.inl rfl, by rw [e15]; exact e4, missing0 e1, missing0 e1⟩)
      unfold eX10_demandState_
      rw [if_pos e2, show eX10_demandIndex C a 16 = some xIO from cIdx0 (y := nI 16) hj, if_neg (by simp)]
  · rcases eIdx (M := M) (x := a) (n := 16) (by decide) with ⟨⟨k, hk, rfl⟩, e4⟩ | ⟨hj, e4⟩
    · refine Or.inr (Or.inl ⟨?_, 1, Or.inr rfl, by rw [e15]; exact e4, ?_, missing0 e1⟩)
      · unfold eX10_demandState_
        rw [e2, if_neg (by simp)]
      · unfold fX11_missing
        rw [ob_s e1, if_pos rfl]
        rfl
    · refine Or.inr (Or.inl ⟨?_, 0, Or.inl rfl, by rw [e15]; exact e4, missing0 e1, missing0 e1⟩)
      unfold eX10_demandState_
      rw [e2, if_neg (by simp)]
theorem inU {M : XO} {x a b : Int32} {v : Int64} {r : Option Int32} (h : fX11_in M x a b = r) : fX11_in (uL M 2017 0 0 v) x a b = r := by rw [eIn] at h ⊢; exact h
theorem missU {M : XO} {x y r : Int32} {v : Int64} {q : Option Int32} (h : fX11_missing M x y r = q) : fX11_missing (uL M 2017 0 0 v) x y r = q := h
/-- where a state's numbers lie -/
theorem inB_s {c b q : Nat} (hc : c < 2) (hb : b < 24) (hq : q < 120) : inB (((120 : Int32) * ((24 : Int32) * nI c + nI b)) + nI q) 5760 ∧ (((120 : Int32) * ((24 : Int32) * nI c + nI b)) + nI q) = nI (120 * (24 * c + b) + q) := by
  have e : (((120 : Int32) * ((24 : Int32) * nI c + nI b)) + nI q) = nI (120 * (24 * c + b) + q) := by
    rw [(inB_24 hc hb).2.1, show (120 : Int32) = nI 120 from rfl, nI_mul, nI_add]
  rw [e]
  exact ⟨inB_nI (by omega) (by omega), rfl⟩
theorem n_at (M : XO) (x y : Int32) : fX11_at M x y = some ((120 : Int32) * (((24 : Int32) * x) + y)) := rfl
