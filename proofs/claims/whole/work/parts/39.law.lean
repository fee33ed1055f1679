theorem nI_c : ∀ k : Nat, k < 100 → Int32.ofInt (k : Int) = nI k := by decide +kernel
theorem nI_b : ∀ k : Nat, k < 100 → (Int8.ofInt (k : Int)).toInt32 = nI k := by decide +kernel
/-- the script, where the body of the law runs -/
def XSc (G : XG) (b L : Nat) (xs : Nat → Int32) : XB → Prop
  | (p, e, R, s, m, args, below, meth, c, Q) => va_X b L xs s s.heap ∧ b < s.heap.size ∧ ¬ xA G b
theorem z_arg {G : XG} {B : XB} {cc : ByteArray} {own : String} {rm : Room} {nL : Nat} (C : XZ G B cc own rm nL) {b L : Nat} {xs : Nat → Int32} (S : XSc G b L xs B) {pc p1 p2 p3 p4 p5 : Nat} {lv : List (Nat × Value)} {st : List Value} {Ω : XO} {cu su : Nat} {i k j l : Nat} {ins : Instr} (h1 : decode cc pc = .ok (.aload_n 0, 1)) (h2 : decode cc p1 = .ok (.iload 4, 2)) (h3 : decode cc p2 = .ok (ins, l)) (h4 : decode cc p3 = .ok (.iadd, 1)) (h5 : decode cc p4 = .ok (.iaload, 1)) (q0 q4 : Nat) (hq0 : lv[q0]? = some (0, .ref b)) (hq4 : lv[q4]? = some (4, .int (nI i))) (hins : (ins = .iconst (k : Int) ∧ l = 1) ∨ (ins = .bipush (k : Int) ∧ l = 2)) (hk : k < 100) (hj : i + k = j) (hl : j < L) (hL : L ≤ 5120) (e1 : pc + 1 = p1) (e2 : p1 + 2 = p2) (e3 : p2 + l = p3) (e4 : p3 + 1 = p4) (e5 : p4 + 1 = p5) (kk : XW G B nL p5 lv (.int (xs j) :: st) Ω cu su) : XW G B nL pc lv st Ω cu su := by
  subst hj
  refine z_aload_n (pc2 := p1) C h1 q0 hq0 rfl e1 ?_
  refine z_iload (pc2 := p2) C h2 q4 hq4 e2 ?_
  have key : XW G B nL p3 lv (.int (nI k) :: .int (nI i) :: .ref b :: st) Ω cu su := by
    refine z_iadd (pc2 := p4) C h4 e4 ?_
    rw [nI_add]
    obtain ⟨p, e, R, s, m, args, below, meth, c, Q⟩ := B
    obtain ⟨hx, hb, hml, ho, hts, hU, hok, hlk, hR, hret, htab, hQ⟩ := C
    subst e5
    intro H locs ls hP hS hl0
    refine va_sld hx hb S.1 S.2.1 S.2.2 hS (nI_in hl (by omega)) h5 ?_
    rw [nI_clamp (by omega)]
    exact kk H locs ls hP hS hl0
  rcases hins with ⟨rfl, rfl⟩ | ⟨rfl, rfl⟩
  · exact z_iconst (pc2 := p3) (v := nI k) C h3 (nI_c k hk) e3 key
  · refine z_bipush (pc2 := p3) (v := nI k) C h3 (nI_b k hk) e3 key
theorem z_len {G : XG} {B : XB} {cc : ByteArray} {own : String} {rm : Room} {nL : Nat} (C : XZ G B cc own rm nL) {b L : Nat} {xs : Nat → Int32} (S : XSc G b L xs B) {pc pc2 : Nat} {lv : List (Nat × Value)} {st : List Value} {Ω : XO} {cu su : Nat} (hd : decode cc pc = .ok (.arraylength, 1)) (hp : pc + 1 = pc2) (kk : XW G B nL pc2 lv (.int (nI L) :: st) Ω cu su) : XW G B nL pc lv (.ref b :: st) Ω cu su := by
  obtain ⟨p, e, R, s, m, args, below, meth, c, Q⟩ := B
  obtain ⟨hx, hb, hml, ho, hts, hU, hok, hlk, hR, hret, htab, hQ⟩ := C
  subst hp
  intro H locs ls hP hS hl
  exact va_slen hx hb S.1 S.2.1 S.2.2 hS hd (kk H locs ls hP hS hl)
theorem cmp0 {x y : Int64} (h : x = y) : lg_cmp x y = 0 := by
  subst h
  unfold lg_cmp
  simp
/-- what the refinement owes of step -/
def OK_step (RG : XO → Prop) : Prop := ∀ (Ω : XO) (x1 x2 x3 : Int32), RG Ω → ∃ (r0 : (Option Value ⊕ String) × XO) (r q : Int32 × XO), fX10_step Ω x1 x2 x3 = some r0 ∧ hlp false [xIO, xIA, xIS] r0.1 r0.2 = some r ∧ fX11_step r.2 x1 x2 x3 = some q ∧ xI q.2 1160 0 0 = r.1 ∧ (r.1 = 0 → xL q.2 2017 0 0 = q.1.toInt64) ∧ RG q.2
/-- what the refinement owes of upgrade -/
def OK_upgrade (RG : XO → Prop) : Prop := ∀ (Ω : XO) (x1 x2 : Int32), RG Ω → ∃ (r0 : (Option Value ⊕ String) × XO) (r q : Int32 × XO), fX10_upgrade Ω 0 x1 x2 = r0 ∧ hlp false [xIO, xIA, xIS] r0.1 r0.2 = some r ∧ fX11_upgrade r.2 x1 x2 = some q ∧ xI q.2 1160 0 0 = r.1 ∧ (r.1 = 0 → xL q.2 2017 0 0 = q.1.toInt64) ∧ RG q.2
/-- what the refinement owes of submit -/
def OK_submit (RG : XO → Prop) : Prop := ∀ (Ω : XO) (x1 x2 x3 x4 x5 x6 x7 x8 x9 : Int32), RG Ω → ∃ (r0 : (Option Value ⊕ String) × XO) (r q : Int32 × XO), fX10_submit Ω 0 x1 x2 x3 x4 x5 x6 x7 x8 x9 = r0 ∧ hlp false [xIO, xIA, xIS] r0.1 r0.2 = some r ∧ fX11_submit r.2 x1 x2 x3 x4 x5 x6 x7 x8 x9 = some q ∧ xI q.2 1160 0 0 = r.1 ∧ (r.1 = 0 → xL q.2 2017 0 0 = q.1.toInt64) ∧ RG q.2
/-- what the refinement owes of claim -/
def OK_claim (RG : XO → Prop) : Prop := ∀ (Ω : XO) (x1 x2 x3 x4 x5 x6 : Int32), RG Ω → ∃ (r0 : (Option Value ⊕ String) × XO) (r q : Int32 × XO), fX10_claim Ω 0 x1 x2 x3 x4 x5 x6 = r0 ∧ hlp false [xIO, xIA, xIS] r0.1 r0.2 = some r ∧ fX11_claim r.2 x1 x2 x3 x4 x5 x6 = some q ∧ xI q.2 1160 0 0 = r.1 ∧ (r.1 = 0 → xL q.2 2017 0 0 = q.1.toInt64) ∧ RG q.2
/-- what the refinement owes of pool -/
def OK_pool (RG : XO → Prop) : Prop := ∀ (Ω : XO) (x1 : Int32), RG Ω → ∃ (r0 : (Option Value ⊕ String) × XO) (r q : Int32 × XO), fX10_pool Ω 0 x1 = r0 ∧ hlp false [xIO] r0.1 r0.2 = some r ∧ fX11_pool r.2 x1 = some q ∧ xI q.2 1160 0 0 = r.1 ∧ (r.1 = 0 → xL q.2 2017 0 0 = q.1.toInt64) ∧ RG q.2
/-- what the refinement owes of make -/
def OK_make (RG : XO → Prop) : Prop := ∀ (Ω : XO) (x1 x2 x3 x4 : Int32), RG Ω → ∃ (r0 : (Option Value ⊕ String) × XO) (r q : Int32 × XO), fX10_make Ω x1 x2 x3 x4 = some r0 ∧ hlp false [xIO, xIA, xIS] r0.1 r0.2 = some r ∧ fX11_make r.2 x1 x2 x3 x4 = some q ∧ xI q.2 1160 0 0 = r.1 ∧ (r.1 = 0 → xL q.2 2017 0 0 = q.1.toInt64) ∧ RG q.2
/-- what the refinement owes of head -/
def OK_head (RG : XO → Prop) : Prop := ∀ (Ω : XO) (x1 : Int32), RG Ω → ∃ (r0 : (Option Value ⊕ String) × XO) (r q : Int32 × XO), fX10_head Ω 0 x1 = r0 ∧ hlp false [xIO] r0.1 r0.2 = some r ∧ fX11_head r.2 x1 = some q ∧ xI q.2 1160 0 0 = r.1 ∧ (r.1 = 0 → xL q.2 2017 0 0 = q.1.toInt64) ∧ RG q.2
/-- what the refinement owes of base -/
def OK_base (RG : XO → Prop) : Prop := ∀ (Ω : XO) (x1 x2 : Int32), RG Ω → ∃ (r0 : (Option Value ⊕ String) × XO) (r q : Int32 × XO), fX10_base Ω 0 x1 x2 = r0 ∧ hlp false [xIO] r0.1 r0.2 = some r ∧ fX11_base r.2 x1 x2 = some q ∧ xI q.2 1160 0 0 = r.1 ∧ (r.1 = 0 → xL q.2 2017 0 0 = q.1.toInt64) ∧ RG q.2
/-- what the refinement owes of used -/
def OK_used (RG : XO → Prop) : Prop := ∀ (Ω : XO) (x1 x2 : Int32), RG Ω → ∃ (r0 : (Option Value ⊕ String) × XO) (r q : Int32 × XO), fX10_used Ω 0 x1 x2 = r0 ∧ hlp false [xIO] r0.1 r0.2 = some r ∧ fX11_used r.2 x1 x2 = some q ∧ xI q.2 1160 0 0 = r.1 ∧ (r.1 = 0 → xL q.2 2017 0 0 = q.1.toInt64) ∧ RG q.2
/-- what the refinement owes of transactionAt -/
def OK_transactionAt (RG : XO → Prop) : Prop := ∀ (Ω : XO) (x1 x2 x3 : Int32), RG Ω → ∃ (r0 : (Option Value ⊕ String) × XO) (r q : Int32 × XO), fX10_transactionAt Ω 0 x1 x2 x3 = r0 ∧ hlp false [xIO] r0.1 r0.2 = some r ∧ fX11_transactionAt r.2 x1 x2 x3 = some q ∧ xI q.2 1160 0 0 = r.1 ∧ (r.1 = 0 → xL q.2 2017 0 0 = q.1.toInt64) ∧ RG q.2
/-- what the refinement owes of eventAt -/
def OK_eventAt (RG : XO → Prop) : Prop := ∀ (Ω : XO) (x1 x2 x3 : Int32), RG Ω → ∃ (r0 : (Option Value ⊕ String) × XO) (r q : Int32 × XO), fX10_eventAt Ω 0 x1 x2 x3 = r0 ∧ hlp false [xIO] r0.1 r0.2 = some r ∧ fX11_eventAt r.2 x1 x2 x3 = some q ∧ xI q.2 1160 0 0 = r.1 ∧ (r.1 = 0 → xL q.2 2017 0 0 = q.1.toInt64) ∧ RG q.2
/-- what the refinement owes of bloom -/
def OK_bloom (RG : XO → Prop) : Prop := ∀ (Ω : XO) (x1 x2 : Int32), RG Ω → ∃ (r0 : (Option Value ⊕ String) × XO) (r q : Int32 × XO), fX10_bloom Ω 0 x1 x2 = r0 ∧ hlp false [xIO] r0.1 r0.2 = some r ∧ fX11_bloom r.2 x1 x2 = some q ∧ xI q.2 1160 0 0 = r.1 ∧ (r.1 = 0 → xL q.2 2017 0 0 = q.1.toInt64) ∧ RG q.2
/-- what the refinement owes of find -/
def OK_find (RG : XO → Prop) : Prop := ∀ (Ω : XO) (x1 x2 : Int32), RG Ω → ∃ (r0 : (Option Value ⊕ String) × XO) (r q : Int32 × XO), fX10_find Ω 0 x1 x2 = r0 ∧ hlp false [xIO, xIA] r0.1 r0.2 = some r ∧ fX11_find r.2 x1 x2 = some q ∧ xI q.2 1160 0 0 = r.1 ∧ (r.1 = 0 → xL q.2 2017 0 0 = q.1.toInt64) ∧ RG q.2
/-- what the refinement owes of coins -/
def OK_coins (RG : XO → Prop) : Prop := ∀ (Ω : XO) (x1 x2 x3 : Int32), RG Ω → ∃ (r0 : (Option Value ⊕ String) × XO) (r q : Int32 × XO), fX10_coins Ω 0 x1 x2 x3 = r0 ∧ hlp false [xIO, xIS] r0.1 r0.2 = some r ∧ fX11_coins r.2 x1 x2 x3 = some q ∧ xI q.2 1160 0 0 = r.1 ∧ (r.1 = 0 → xL q.2 2017 0 0 = q.1.toInt64) ∧ RG q.2
/-- what the refinement owes of codeOf -/
def OK_codeOf (RG : XO → Prop) : Prop := ∀ (Ω : XO) (x1 x2 x3 : Int32), RG Ω → ∃ (r0 : (Option Value ⊕ String) × XO) (r q : Int32 × XO), fX10_codeOf Ω 0 x1 x2 x3 = r0 ∧ hlp false [xIO, xIS] r0.1 r0.2 = some r ∧ fX11_codeOf r.2 x1 x2 x3 = some q ∧ xI q.2 1160 0 0 = r.1 ∧ (r.1 = 0 → xL q.2 2017 0 0 = q.1.toInt64) ∧ RG q.2
/-- what the refinement owes of slot -/
def OK_slot (RG : XO → Prop) : Prop := ∀ (Ω : XO) (x1 x2 x3 x4 : Int32), RG Ω → ∃ (r0 : (Option Value ⊕ String) × XO) (r q : Int32 × XO), fX10_slot Ω 0 x1 x2 x3 x4 = r0 ∧ hlp false [xIO, xIS] r0.1 r0.2 = some r ∧ fX11_slot r.2 x1 x2 x3 x4 = some q ∧ xI q.2 1160 0 0 = r.1 ∧ (r.1 = 0 → xL q.2 2017 0 0 = q.1.toInt64) ∧ RG q.2
/-- what the refinement owes of burned -/
def OK_burned (RG : XO → Prop) : Prop := ∀ (Ω : XO) (x1 x2 : Int32), RG Ω → ∃ (r0 : (Option Value ⊕ String) × XO) (r q : Int32 × XO), fX10_burned Ω 0 x1 x2 = r0 ∧ hlp false [xIO, xIS] r0.1 r0.2 = some r ∧ fX11_burned r.2 x1 x2 = some q ∧ xI q.2 1160 0 0 = r.1 ∧ (r.1 = 0 → xL q.2 2017 0 0 = q.1.toInt64) ∧ RG q.2
/-- what the refinement owes of root -/
def OK_root (RG : XO → Prop) : Prop := ∀ (Ω : XO) (x1 x2 : Int32), RG Ω → ∃ (r0 : (Option Value ⊕ String) × XO) (r q : Int32 × XO), fX10_root Ω 0 x1 x2 = r0 ∧ hlp false [xIO] r0.1 r0.2 = some r ∧ fX11_root r.2 x1 x2 = some q ∧ xI q.2 1160 0 0 = r.1 ∧ (r.1 = 0 → xL q.2 2017 0 0 = q.1.toInt64) ∧ RG q.2
/-- what the refinement owes of rootAnew -/
def OK_rootAnew (RG : XO → Prop) : Prop := ∀ (Ω : XO) (x1 x2 : Int32), RG Ω → ∃ (r0 : (Option Value ⊕ String) × XO) (r q : Int32 × XO), fX10_rootAnew Ω x1 x2 = some r0 ∧ hlp false [xIO] r0.1 r0.2 = some r ∧ fX11_rootAnew r.2 x1 x2 = some q ∧ xI q.2 1160 0 0 = r.1 ∧ (r.1 = 0 → xL q.2 2017 0 0 = q.1.toInt64) ∧ RG q.2
/-- what the refinement owes of leaf -/
def OK_leaf (RG : XO → Prop) : Prop := ∀ (Ω : XO) (x1 x2 x3 : Int32), RG Ω → ∃ (r0 : (Option Value ⊕ String) × XO) (r q : Int32 × XO), fX10_leaf Ω 0 x1 x2 x3 = r0 ∧ hlp false [xIO, xIS] r0.1 r0.2 = some r ∧ fX11_leaf r.2 x1 x2 x3 = some q ∧ xI q.2 1160 0 0 = r.1 ∧ (r.1 = 0 → xL q.2 2017 0 0 = q.1.toInt64) ∧ RG q.2
/-- what the refinement owes of proof -/
def OK_proof (RG : XO → Prop) : Prop := ∀ (Ω : XO) (x1 x2 x3 x4 : Int32), RG Ω → ∃ (r0 : (Option Value ⊕ String) × XO) (r q : Int32 × XO), fX10_proof Ω 0 x1 x2 x3 x4 = r0 ∧ hlp false [xIO, xIS] r0.1 r0.2 = some r ∧ fX11_proof r.2 x1 x2 x3 x4 = some q ∧ xI q.2 1160 0 0 = r.1 ∧ (r.1 = 0 → xL q.2 2017 0 0 = q.1.toInt64) ∧ RG q.2
/-- what the refinement owes of proves -/
def OK_proves (RG : XO → Prop) : Prop := ∀ (Ω : XO) (x1 x2 x3 x4 x5 x6 x7 x8 : Int32), RG Ω → ∃ (r0 : (Option Value ⊕ String) × XO) (r q : Int32 × XO), fX10_proves Ω 0 x1 x2 x3 x4 x5 x6 x7 x8 = r0 ∧ hlp true [xIO, xIA] r0.1 r0.2 = some r ∧ fX11_proves r.2 x1 x2 x3 x4 x5 x6 x7 x8 = some q ∧ xI q.2 1160 0 0 = r.1 ∧ (r.1 = 0 → xL q.2 2017 0 0 = (if q.1 = 0 then 0 else 1)) ∧ RG q.2
/-- what the refinement owes of prune -/
def OK_prune (RG : XO → Prop) : Prop := ∀ (Ω : XO) (x1 : Int32), RG Ω → ∃ (r0 : (Option Value ⊕ String) × XO) (r q : Int32 × XO), fX10_prune Ω 0 x1 = r0 ∧ hlp false [xIO] r0.1 r0.2 = some r ∧ fX11_prune r.2 x1 = some q ∧ xI q.2 1160 0 0 = r.1 ∧ (r.1 = 0 → xL q.2 2017 0 0 = q.1.toInt64) ∧ RG q.2
/-- what the refinement owes of vote -/
def OK_vote (RG : XO → Prop) : Prop := ∀ (Ω : XO) (x1 x2 x3 x4 : Int32), RG Ω → ∃ (r0 : (Option Value ⊕ String) × XO) (r q : Int32 × XO), fX10_vote Ω x1 x2 x3 x4 = some r0 ∧ hlp true [xIO, xIA, xIS] r0.1 r0.2 = some r ∧ fX11_vote r.2 x1 x2 x3 x4 = some q ∧ xI q.2 1160 0 0 = r.1 ∧ (r.1 = 0 → xL q.2 2017 0 0 = (if q.1 = 0 then 0 else 1)) ∧ RG q.2
/-- what the refinement owes of isJustified -/
def OK_isJustified (RG : XO → Prop) : Prop := ∀ (Ω : XO) (x1 x2 : Int32), RG Ω → ∃ (r0 : (Option Value ⊕ String) × XO) (r q : Int32 × XO), fX10_isJustified Ω x1 x2 = some r0 ∧ hlp true [xIO] r0.1 r0.2 = some r ∧ fX11_isJustified r.2 x1 x2 = some q ∧ xI q.2 1160 0 0 = r.1 ∧ (r.1 = 0 → xL q.2 2017 0 0 = (if q.1 = 0 then 0 else 1)) ∧ RG q.2
/-- what the refinement owes of lastFinal -/
def OK_lastFinal (RG : XO → Prop) : Prop := ∀ (Ω : XO) (x1 : Int32), RG Ω → ∃ (r0 : (Option Value ⊕ String) × XO) (r q : Int32 × XO), fX10_lastFinal Ω 0 x1 = r0 ∧ hlp false [xIO] r0.1 r0.2 = some r ∧ fX11_lastFinal r.2 x1 = some q ∧ xI q.2 1160 0 0 = r.1 ∧ (r.1 = 0 → xL q.2 2017 0 0 = q.1.toInt64) ∧ RG q.2
/-- what the refinement owes of stake -/
def OK_stake (RG : XO → Prop) : Prop := ∀ (Ω : XO) (x1 x2 : Int32), RG Ω → ∃ (r0 : (Option Value ⊕ String) × XO) (r q : Int32 × XO), fX10_stake Ω 0 x1 x2 = r0 ∧ hlp false [xIO] r0.1 r0.2 = some r ∧ fX11_stake r.2 x1 x2 = some q ∧ xI q.2 1160 0 0 = r.1 ∧ (r.1 = 0 → xL q.2 2017 0 0 = q.1.toInt64) ∧ RG q.2
set_option maxRecDepth 20000 in
theorem lc_step {G : XG} (hok : XK G) {B : XB} (C : XZ G B cL_law RL room_1 7) (hN : XNB B) {b L : Nat} {xs : Nat → Int32} (S : XSc G b L xs B) (hd10 : dm G 10 0) (hd11 : dm G 11 0) (hd17 : dm G 2017 0) {t : Nat} (ht : 10 * t + 10 ≤ L) (hL : L ≤ 5120) {RG : XO → Prop} (ok : OK_step RG) {Ω : XO} (hR : RG Ω) {cu su : Nat} (hcu : cu + 10 ≤ 601024) (hsu : su + 60 ≤ 7293034) (k : ∀ Ω', RG Ω' → XW G B 7 2361 [(4, .int (nI (10 * t))), (3, .ref (ad G 2017 0)), (2, .ref (ad G 11 0)), (1, .ref (ad G 10 0)), (0, .ref b)] [] Ω' (cu + 6) (su + 36)) : XW G B 7 164 [(4, .int (nI (10 * t))), (3, .ref (ad G 2017 0)), (2, .ref (ad G 11 0)), (1, .ref (ad G 10 0)), (0, .ref b)] [] Ω cu su := by
  obtain ⟨r0, r, q, g1, g2, g3, g4, g5, g6⟩ := ok Ω (xs (10 * t + 1)) (xs (10 * t + 2)) (xs (10 * t + 3)) hR
  refine z_aload_n (pc2 := 165) C dL_law_164 3 rfl rfl rfl ?_
  refine z_arg (k := 1) (j := 10 * t + 1) (p1 := 166) (p2 := 168) (p3 := 169) (p4 := 170) (p5 := 171) C S dL_law_165 dL_law_166 dL_law_168 dL_law_169 dL_law_170 4 0 rfl rfl (Or.inl ⟨rfl, rfl⟩) (by decide) rfl (by omega) hL rfl rfl rfl rfl rfl ?_
  refine z_arg (k := 2) (j := 10 * t + 2) (p1 := 172) (p2 := 174) (p3 := 175) (p4 := 176) (p5 := 177) C S dL_law_171 dL_law_172 dL_law_174 dL_law_175 dL_law_176 4 0 rfl rfl (Or.inl ⟨rfl, rfl⟩) (by decide) rfl (by omega) hL rfl rfl rfl rfl rfl ?_
  refine z_arg (k := 3) (j := 10 * t + 3) (p1 := 178) (p2 := 180) (p3 := 181) (p4 := 182) (p5 := 183) C S dL_law_177 dL_law_178 dL_law_180 dL_law_181 dL_law_182 4 0 rfl rfl (Or.inl ⟨rfl, rfl⟩) (by decide) rfl (by omega) hL rfl rfl rfl rfl rfl ?_
  refine z_aload_n (pc2 := 184) C dL_law_183 1 rfl rfl rfl ?_
  refine x_ret (rest := []) (st2 := [.int r.1]) (pc2 := 187) (cu2 := cu + 6) (su2 := su + 36) (z_cH C hN kmL_step rfl kk_L_109 (hL_step hok hd10 hd17 g1 g2) rfl rfl (Nat.le_of_ble_eq_true rfl) ⟨(Nat.le_of_ble_eq_true rfl), (Nat.le_of_ble_eq_true rfl)⟩ ⟨by show cu + 6 ≤ 601024; omega, by show su + 36 ≤ 7293034; omega⟩ dL_law_184) rfl rfl rfl rfl ?_
  refine z_istore (pc2 := 189) (lv2 := [(5, .int r.1), (4, .int (nI (10 * t))), (3, .ref (ad G 2017 0)), (2, .ref (ad G 11 0)), (1, .ref (ad G 10 0)), (0, .ref b)]) C dL_law_187 (by decide) rfl rfl ?_
  refine z_aload_n (pc2 := 190) C dL_law_189 3 rfl rfl rfl ?_
  refine z_arg (k := 1) (j := 10 * t + 1) (p1 := 191) (p2 := 193) (p3 := 194) (p4 := 195) (p5 := 196) C S dL_law_190 dL_law_191 dL_law_193 dL_law_194 dL_law_195 5 1 rfl rfl (Or.inl ⟨rfl, rfl⟩) (by decide) rfl (by omega) hL rfl rfl rfl rfl rfl ?_
  refine z_arg (k := 2) (j := 10 * t + 2) (p1 := 197) (p2 := 199) (p3 := 200) (p4 := 201) (p5 := 202) C S dL_law_196 dL_law_197 dL_law_199 dL_law_200 dL_law_201 5 1 rfl rfl (Or.inl ⟨rfl, rfl⟩) (by decide) rfl (by omega) hL rfl rfl rfl rfl rfl ?_
  refine z_arg (k := 3) (j := 10 * t + 3) (p1 := 203) (p2 := 205) (p3 := 206) (p4 := 207) (p5 := 208) C S dL_law_202 dL_law_203 dL_law_205 dL_law_206 dL_law_207 5 1 rfl rfl (Or.inl ⟨rfl, rfl⟩) (by decide) rfl (by omega) hL rfl rfl rfl rfl rfl ?_
  refine x_ret (rest := []) (st2 := [.int q.1]) (pc2 := 211) (cu2 := cu + 6) (su2 := su + 36) (z_cV C hd11 (Nat.le_of_ble_eq_true rfl) kmX11_step rfl kk_L_114 (tX11_step hok hd11 g3) rfl rfl (Nat.le_of_ble_eq_true rfl) ⟨(Nat.le_of_ble_eq_true rfl), (Nat.le_of_ble_eq_true rfl)⟩ ⟨by show cu + 6 + 0 ≤ 601024; omega, by show su + 36 + 0 ≤ 7293034; omega⟩ dL_law_208) rfl rfl rfl rfl ?_
  refine z_istore (pc2 := 213) (lv2 := [(6, .int q.1), (5, .int r.1), (4, .int (nI (10 * t))), (3, .ref (ad G 2017 0)), (2, .ref (ad G 11 0)), (1, .ref (ad G 10 0)), (0, .ref b)]) C dL_law_211 (by decide) rfl rfl ?_
  refine z_aload_n (pc2 := 214) C dL_law_213 4 rfl rfl rfl ?_
  refine x_ret (rest := []) (st2 := [.int r.1]) (pc2 := 217) (cu2 := cu + 6) (su2 := su + 36) (z_cV C hd11 (Nat.le_of_ble_eq_true rfl) kmX11_thrown rfl kk_L_115 (tX11_thrown hok hd11 (r := r.1) (by rw [← g4]; rfl)) rfl rfl (Nat.le_of_ble_eq_true rfl) ⟨(Nat.le_of_ble_eq_true rfl), (Nat.le_of_ble_eq_true rfl)⟩ ⟨by show cu + 6 + 0 ≤ 601024; omega, by show su + 36 + 0 ≤ 7293034; omega⟩ dL_law_214) rfl rfl rfl rfl ?_
  refine z_iload (pc2 := 219) C dL_law_217 1 rfl rfl ?_
  refine z_icmp_eq (tgt := 224) (pc2 := 222) C dL_law_219 (by decide) rfl (fun _ => ?_) (fun h9 => absurd rfl h9)
  refine z_iload (pc2 := 226) C dL_law_224 1 rfl rfl ?_
  have fin : XW G B 7 241 [(6, .int q.1), (5, .int r.1), (4, .int (nI (10 * t))), (3, .ref (ad G 2017 0)), (2, .ref (ad G 11 0)), (1, .ref (ad G 10 0)), (0, .ref b)] [] q.2 (cu + 6) (su + 36) := by
    refine z_goto (tgt := 2361) C dL_law_241 (by decide) ?_
    exact z_sub (lv2 := [(4, .int (nI (10 * t))), (3, .ref (ad G 2017 0)), (2, .ref (ad G 11 0)), (1, .ref (ad G 10 0)), (0, .ref b)]) C [2, 3, 4, 5, 6] rfl (k q.2 g6)
  refine z_if_ne (tgt := 241) (pc2 := 229) C dL_law_226 (by decide) rfl (fun _ => fin) (fun h8 => ?_)
  refine z_aload_n (pc2 := 230) C dL_law_229 3 rfl rfl rfl ?_
  refine z_iconst (pc2 := 231) (v := 0) C dL_law_230 rfl rfl ?_
  refine z_lald (pc2 := 232) C hd17 dL_law_231 rfl (nI_in (c := 0) (N := 1) (by decide) (by decide)) rfl ?_
  refine z_iload (pc2 := 234) C dL_law_232 0 rfl rfl ?_
  refine z_i2l (pc2 := 235) C dL_law_234 rfl ?_
  refine z_lcmp (pc2 := 236) C dL_law_235 rfl ?_
  exact z_if_eq (tgt := 241) (pc2 := 239) C dL_law_236 (by decide) rfl (fun _ => fin) (fun h9 => absurd (cmp0 (g5 h8)) h9)
set_option maxRecDepth 20000 in
theorem lc_upgrade {G : XG} (hok : XK G) {B : XB} (C : XZ G B cL_law RL room_1 7) (hN : XNB B) {b L : Nat} {xs : Nat → Int32} (S : XSc G b L xs B) (hd10 : dm G 10 0) (hd11 : dm G 11 0) (hd17 : dm G 2017 0) {t : Nat} (ht : 10 * t + 10 ≤ L) (hL : L ≤ 5120) {RG : XO → Prop} (ok : OK_upgrade RG) {Ω : XO} (hR : RG Ω) {cu su : Nat} (hcu : cu + 10 ≤ 601024) (hsu : su + 60 ≤ 7293034) (k : ∀ Ω', RG Ω' → XW G B 7 2361 [(4, .int (nI (10 * t))), (3, .ref (ad G 2017 0)), (2, .ref (ad G 11 0)), (1, .ref (ad G 10 0)), (0, .ref b)] [] Ω' (cu + 3) (su + 18)) : XW G B 7 244 [(4, .int (nI (10 * t))), (3, .ref (ad G 2017 0)), (2, .ref (ad G 11 0)), (1, .ref (ad G 10 0)), (0, .ref b)] [] Ω cu su := by
  obtain ⟨r0, r, q, g1, g2, g3, g4, g5, g6⟩ := ok Ω (xs (10 * t + 1)) (xs (10 * t + 2)) hR
  refine z_aload_n (pc2 := 245) C dL_law_244 3 rfl rfl rfl ?_
  refine z_arg (k := 1) (j := 10 * t + 1) (p1 := 246) (p2 := 248) (p3 := 249) (p4 := 250) (p5 := 251) C S dL_law_245 dL_law_246 dL_law_248 dL_law_249 dL_law_250 4 0 rfl rfl (Or.inl ⟨rfl, rfl⟩) (by decide) rfl (by omega) hL rfl rfl rfl rfl rfl ?_
  refine z_arg (k := 2) (j := 10 * t + 2) (p1 := 252) (p2 := 254) (p3 := 255) (p4 := 256) (p5 := 257) C S dL_law_251 dL_law_252 dL_law_254 dL_law_255 dL_law_256 4 0 rfl rfl (Or.inl ⟨rfl, rfl⟩) (by decide) rfl (by omega) hL rfl rfl rfl rfl rfl ?_
  refine z_aload_n (pc2 := 258) C dL_law_257 1 rfl rfl rfl ?_
  refine x_ret (rest := []) (st2 := [.int r.1]) (pc2 := 261) (cu2 := cu + 3) (su2 := su + 18) (z_cH C hN kmL_upgrade rfl kk_L_119 (hL_upgrade hok hd10 hd17 (by rw [g1]; exact g2)) rfl rfl (Nat.le_of_ble_eq_true rfl) ⟨(Nat.le_of_ble_eq_true rfl), (Nat.le_of_ble_eq_true rfl)⟩ ⟨by show cu + 3 ≤ 601024; omega, by show su + 18 ≤ 7293034; omega⟩ dL_law_258) rfl rfl rfl rfl ?_
  refine z_istore (pc2 := 263) (lv2 := [(5, .int r.1), (4, .int (nI (10 * t))), (3, .ref (ad G 2017 0)), (2, .ref (ad G 11 0)), (1, .ref (ad G 10 0)), (0, .ref b)]) C dL_law_261 (by decide) rfl rfl ?_
  refine z_aload_n (pc2 := 264) C dL_law_263 3 rfl rfl rfl ?_
  refine z_arg (k := 1) (j := 10 * t + 1) (p1 := 265) (p2 := 267) (p3 := 268) (p4 := 269) (p5 := 270) C S dL_law_264 dL_law_265 dL_law_267 dL_law_268 dL_law_269 5 1 rfl rfl (Or.inl ⟨rfl, rfl⟩) (by decide) rfl (by omega) hL rfl rfl rfl rfl rfl ?_
  refine z_arg (k := 2) (j := 10 * t + 2) (p1 := 271) (p2 := 273) (p3 := 274) (p4 := 275) (p5 := 276) C S dL_law_270 dL_law_271 dL_law_273 dL_law_274 dL_law_275 5 1 rfl rfl (Or.inl ⟨rfl, rfl⟩) (by decide) rfl (by omega) hL rfl rfl rfl rfl rfl ?_
  refine x_ret (rest := []) (st2 := [.int q.1]) (pc2 := 279) (cu2 := cu + 3) (su2 := su + 18) (z_cV C hd11 (Nat.le_of_ble_eq_true rfl) kmX11_upgrade rfl kk_L_122 (tX11_upgrade hok hd11 g3) rfl rfl (Nat.le_of_ble_eq_true rfl) ⟨(Nat.le_of_ble_eq_true rfl), (Nat.le_of_ble_eq_true rfl)⟩ ⟨by show cu + 3 + 0 ≤ 601024; omega, by show su + 18 + 0 ≤ 7293034; omega⟩ dL_law_276) rfl rfl rfl rfl ?_
  refine z_istore (pc2 := 281) (lv2 := [(6, .int q.1), (5, .int r.1), (4, .int (nI (10 * t))), (3, .ref (ad G 2017 0)), (2, .ref (ad G 11 0)), (1, .ref (ad G 10 0)), (0, .ref b)]) C dL_law_279 (by decide) rfl rfl ?_
  refine z_aload_n (pc2 := 282) C dL_law_281 4 rfl rfl rfl ?_
  refine x_ret (rest := []) (st2 := [.int r.1]) (pc2 := 285) (cu2 := cu + 3) (su2 := su + 18) (z_cV C hd11 (Nat.le_of_ble_eq_true rfl) kmX11_thrown rfl kk_L_115 (tX11_thrown hok hd11 (r := r.1) (by rw [← g4]; rfl)) rfl rfl (Nat.le_of_ble_eq_true rfl) ⟨(Nat.le_of_ble_eq_true rfl), (Nat.le_of_ble_eq_true rfl)⟩ ⟨by show cu + 3 + 0 ≤ 601024; omega, by show su + 18 + 0 ≤ 7293034; omega⟩ dL_law_282) rfl rfl rfl rfl ?_
  refine z_iload (pc2 := 287) C dL_law_285 1 rfl rfl ?_
  refine z_icmp_eq (tgt := 292) (pc2 := 290) C dL_law_287 (by decide) rfl (fun _ => ?_) (fun h9 => absurd rfl h9)
  refine z_iload (pc2 := 294) C dL_law_292 1 rfl rfl ?_
  have fin : XW G B 7 309 [(6, .int q.1), (5, .int r.1), (4, .int (nI (10 * t))), (3, .ref (ad G 2017 0)), (2, .ref (ad G 11 0)), (1, .ref (ad G 10 0)), (0, .ref b)] [] q.2 (cu + 3) (su + 18) := by
    refine z_goto (tgt := 2361) C dL_law_309 (by decide) ?_
    exact z_sub (lv2 := [(4, .int (nI (10 * t))), (3, .ref (ad G 2017 0)), (2, .ref (ad G 11 0)), (1, .ref (ad G 10 0)), (0, .ref b)]) C [2, 3, 4, 5, 6] rfl (k q.2 g6)
  refine z_if_ne (tgt := 309) (pc2 := 297) C dL_law_294 (by decide) rfl (fun _ => fin) (fun h8 => ?_)
  refine z_aload_n (pc2 := 298) C dL_law_297 3 rfl rfl rfl ?_
  refine z_iconst (pc2 := 299) (v := 0) C dL_law_298 rfl rfl ?_
  refine z_lald (pc2 := 300) C hd17 dL_law_299 rfl (nI_in (c := 0) (N := 1) (by decide) (by decide)) rfl ?_
  refine z_iload (pc2 := 302) C dL_law_300 0 rfl rfl ?_
  refine z_i2l (pc2 := 303) C dL_law_302 rfl ?_
  refine z_lcmp (pc2 := 304) C dL_law_303 rfl ?_
  exact z_if_eq (tgt := 309) (pc2 := 307) C dL_law_304 (by decide) rfl (fun _ => fin) (fun h9 => absurd (cmp0 (g5 h8)) h9)
set_option maxRecDepth 20000 in
theorem lc_submit {G : XG} (hok : XK G) {B : XB} (C : XZ G B cL_law RL room_1 7) (hN : XNB B) {b L : Nat} {xs : Nat → Int32} (S : XSc G b L xs B) (hd10 : dm G 10 0) (hd11 : dm G 11 0) (hd17 : dm G 2017 0) {t : Nat} (ht : 10 * t + 10 ≤ L) (hL : L ≤ 5120) {RG : XO → Prop} (ok : OK_submit RG) {Ω : XO} (hR : RG Ω) {cu su : Nat} (hcu : cu + 10 ≤ 601024) (hsu : su + 60 ≤ 7293034) (k : ∀ Ω', RG Ω' → XW G B 7 2361 [(4, .int (nI (10 * t))), (3, .ref (ad G 2017 0)), (2, .ref (ad G 11 0)), (1, .ref (ad G 10 0)), (0, .ref b)] [] Ω' (cu + 10) (su + 60)) : XW G B 7 312 [(4, .int (nI (10 * t))), (3, .ref (ad G 2017 0)), (2, .ref (ad G 11 0)), (1, .ref (ad G 10 0)), (0, .ref b)] [] Ω cu su := by
  obtain ⟨r0, r, q, g1, g2, g3, g4, g5, g6⟩ := ok Ω (xs (10 * t + 1)) (xs (10 * t + 2)) (xs (10 * t + 3)) (xs (10 * t + 4)) (xs (10 * t + 5)) (xs (10 * t + 6)) (xs (10 * t + 7)) (xs (10 * t + 8)) (xs (10 * t + 9)) hR
  refine z_aload_n (pc2 := 313) C dL_law_312 3 rfl rfl rfl ?_
  refine z_arg (k := 1) (j := 10 * t + 1) (p1 := 314) (p2 := 316) (p3 := 317) (p4 := 318) (p5 := 319) C S dL_law_313 dL_law_314 dL_law_316 dL_law_317 dL_law_318 4 0 rfl rfl (Or.inl ⟨rfl, rfl⟩) (by decide) rfl (by omega) hL rfl rfl rfl rfl rfl ?_
  refine z_arg (k := 2) (j := 10 * t + 2) (p1 := 320) (p2 := 322) (p3 := 323) (p4 := 324) (p5 := 325) C S dL_law_319 dL_law_320 dL_law_322 dL_law_323 dL_law_324 4 0 rfl rfl (Or.inl ⟨rfl, rfl⟩) (by decide) rfl (by omega) hL rfl rfl rfl rfl rfl ?_
  refine z_arg (k := 3) (j := 10 * t + 3) (p1 := 326) (p2 := 328) (p3 := 329) (p4 := 330) (p5 := 331) C S dL_law_325 dL_law_326 dL_law_328 dL_law_329 dL_law_330 4 0 rfl rfl (Or.inl ⟨rfl, rfl⟩) (by decide) rfl (by omega) hL rfl rfl rfl rfl rfl ?_
  refine z_arg (k := 4) (j := 10 * t + 4) (p1 := 332) (p2 := 334) (p3 := 335) (p4 := 336) (p5 := 337) C S dL_law_331 dL_law_332 dL_law_334 dL_law_335 dL_law_336 4 0 rfl rfl (Or.inl ⟨rfl, rfl⟩) (by decide) rfl (by omega) hL rfl rfl rfl rfl rfl ?_
  refine z_arg (k := 5) (j := 10 * t + 5) (p1 := 338) (p2 := 340) (p3 := 341) (p4 := 342) (p5 := 343) C S dL_law_337 dL_law_338 dL_law_340 dL_law_341 dL_law_342 4 0 rfl rfl (Or.inl ⟨rfl, rfl⟩) (by decide) rfl (by omega) hL rfl rfl rfl rfl rfl ?_
  refine z_arg (k := 6) (j := 10 * t + 6) (p1 := 344) (p2 := 346) (p3 := 348) (p4 := 349) (p5 := 350) C S dL_law_343 dL_law_344 dL_law_346 dL_law_348 dL_law_349 4 0 rfl rfl (Or.inr ⟨rfl, rfl⟩) (by decide) rfl (by omega) hL rfl rfl rfl rfl rfl ?_
  refine z_arg (k := 7) (j := 10 * t + 7) (p1 := 351) (p2 := 353) (p3 := 355) (p4 := 356) (p5 := 357) C S dL_law_350 dL_law_351 dL_law_353 dL_law_355 dL_law_356 4 0 rfl rfl (Or.inr ⟨rfl, rfl⟩) (by decide) rfl (by omega) hL rfl rfl rfl rfl rfl ?_
  refine z_arg (k := 8) (j := 10 * t + 8) (p1 := 358) (p2 := 360) (p3 := 362) (p4 := 363) (p5 := 364) C S dL_law_357 dL_law_358 dL_law_360 dL_law_362 dL_law_363 4 0 rfl rfl (Or.inr ⟨rfl, rfl⟩) (by decide) rfl (by omega) hL rfl rfl rfl rfl rfl ?_
  refine z_arg (k := 9) (j := 10 * t + 9) (p1 := 365) (p2 := 367) (p3 := 369) (p4 := 370) (p5 := 371) C S dL_law_364 dL_law_365 dL_law_367 dL_law_369 dL_law_370 4 0 rfl rfl (Or.inr ⟨rfl, rfl⟩) (by decide) rfl (by omega) hL rfl rfl rfl rfl rfl ?_
  refine z_aload_n (pc2 := 372) C dL_law_371 1 rfl rfl rfl ?_
  refine x_ret (rest := []) (st2 := [.int r.1]) (pc2 := 375) (cu2 := cu + 10) (su2 := su + 60) (z_cH C hN kmL_submit rfl kk_L_123 (hL_submit hok hd10 hd17 (by rw [g1]; exact g2)) rfl rfl (Nat.le_of_ble_eq_true rfl) ⟨(Nat.le_of_ble_eq_true rfl), (Nat.le_of_ble_eq_true rfl)⟩ ⟨by show cu + 10 ≤ 601024; omega, by show su + 60 ≤ 7293034; omega⟩ dL_law_372) rfl rfl rfl rfl ?_
  refine z_istore (pc2 := 377) (lv2 := [(5, .int r.1), (4, .int (nI (10 * t))), (3, .ref (ad G 2017 0)), (2, .ref (ad G 11 0)), (1, .ref (ad G 10 0)), (0, .ref b)]) C dL_law_375 (by decide) rfl rfl ?_
  refine z_aload_n (pc2 := 378) C dL_law_377 3 rfl rfl rfl ?_
  refine z_arg (k := 1) (j := 10 * t + 1) (p1 := 379) (p2 := 381) (p3 := 382) (p4 := 383) (p5 := 384) C S dL_law_378 dL_law_379 dL_law_381 dL_law_382 dL_law_383 5 1 rfl rfl (Or.inl ⟨rfl, rfl⟩) (by decide) rfl (by omega) hL rfl rfl rfl rfl rfl ?_
  refine z_arg (k := 2) (j := 10 * t + 2) (p1 := 385) (p2 := 387) (p3 := 388) (p4 := 389) (p5 := 390) C S dL_law_384 dL_law_385 dL_law_387 dL_law_388 dL_law_389 5 1 rfl rfl (Or.inl ⟨rfl, rfl⟩) (by decide) rfl (by omega) hL rfl rfl rfl rfl rfl ?_
  refine z_arg (k := 3) (j := 10 * t + 3) (p1 := 391) (p2 := 393) (p3 := 394) (p4 := 395) (p5 := 396) C S dL_law_390 dL_law_391 dL_law_393 dL_law_394 dL_law_395 5 1 rfl rfl (Or.inl ⟨rfl, rfl⟩) (by decide) rfl (by omega) hL rfl rfl rfl rfl rfl ?_
  refine z_arg (k := 4) (j := 10 * t + 4) (p1 := 397) (p2 := 399) (p3 := 400) (p4 := 401) (p5 := 402) C S dL_law_396 dL_law_397 dL_law_399 dL_law_400 dL_law_401 5 1 rfl rfl (Or.inl ⟨rfl, rfl⟩) (by decide) rfl (by omega) hL rfl rfl rfl rfl rfl ?_
  refine z_arg (k := 5) (j := 10 * t + 5) (p1 := 403) (p2 := 405) (p3 := 406) (p4 := 407) (p5 := 408) C S dL_law_402 dL_law_403 dL_law_405 dL_law_406 dL_law_407 5 1 rfl rfl (Or.inl ⟨rfl, rfl⟩) (by decide) rfl (by omega) hL rfl rfl rfl rfl rfl ?_
  refine z_arg (k := 6) (j := 10 * t + 6) (p1 := 409) (p2 := 411) (p3 := 413) (p4 := 414) (p5 := 415) C S dL_law_408 dL_law_409 dL_law_411 dL_law_413 dL_law_414 5 1 rfl rfl (Or.inr ⟨rfl, rfl⟩) (by decide) rfl (by omega) hL rfl rfl rfl rfl rfl ?_
  refine z_arg (k := 7) (j := 10 * t + 7) (p1 := 416) (p2 := 418) (p3 := 420) (p4 := 421) (p5 := 422) C S dL_law_415 dL_law_416 dL_law_418 dL_law_420 dL_law_421 5 1 rfl rfl (Or.inr ⟨rfl, rfl⟩) (by decide) rfl (by omega) hL rfl rfl rfl rfl rfl ?_
  refine z_arg (k := 8) (j := 10 * t + 8) (p1 := 423) (p2 := 425) (p3 := 427) (p4 := 428) (p5 := 429) C S dL_law_422 dL_law_423 dL_law_425 dL_law_427 dL_law_428 5 1 rfl rfl (Or.inr ⟨rfl, rfl⟩) (by decide) rfl (by omega) hL rfl rfl rfl rfl rfl ?_
  refine z_arg (k := 9) (j := 10 * t + 9) (p1 := 430) (p2 := 432) (p3 := 434) (p4 := 435) (p5 := 436) C S dL_law_429 dL_law_430 dL_law_432 dL_law_434 dL_law_435 5 1 rfl rfl (Or.inr ⟨rfl, rfl⟩) (by decide) rfl (by omega) hL rfl rfl rfl rfl rfl ?_
  refine x_ret (rest := []) (st2 := [.int q.1]) (pc2 := 439) (cu2 := cu + 10) (su2 := su + 60) (z_cV C hd11 (Nat.le_of_ble_eq_true rfl) kmX11_submit rfl kk_L_126 (tX11_submit hok hd11 g3) rfl rfl (Nat.le_of_ble_eq_true rfl) ⟨(Nat.le_of_ble_eq_true rfl), (Nat.le_of_ble_eq_true rfl)⟩ ⟨by show cu + 10 + 0 ≤ 601024; omega, by show su + 60 + 0 ≤ 7293034; omega⟩ dL_law_436) rfl rfl rfl rfl ?_
  refine z_istore (pc2 := 441) (lv2 := [(6, .int q.1), (5, .int r.1), (4, .int (nI (10 * t))), (3, .ref (ad G 2017 0)), (2, .ref (ad G 11 0)), (1, .ref (ad G 10 0)), (0, .ref b)]) C dL_law_439 (by decide) rfl rfl ?_
  refine z_aload_n (pc2 := 442) C dL_law_441 4 rfl rfl rfl ?_
  refine x_ret (rest := []) (st2 := [.int r.1]) (pc2 := 445) (cu2 := cu + 10) (su2 := su + 60) (z_cV C hd11 (Nat.le_of_ble_eq_true rfl) kmX11_thrown rfl kk_L_115 (tX11_thrown hok hd11 (r := r.1) (by rw [← g4]; rfl)) rfl rfl (Nat.le_of_ble_eq_true rfl) ⟨(Nat.le_of_ble_eq_true rfl), (Nat.le_of_ble_eq_true rfl)⟩ ⟨by show cu + 10 + 0 ≤ 601024; omega, by show su + 60 + 0 ≤ 7293034; omega⟩ dL_law_442) rfl rfl rfl rfl ?_
  refine z_iload (pc2 := 447) C dL_law_445 1 rfl rfl ?_
  refine z_icmp_eq (tgt := 452) (pc2 := 450) C dL_law_447 (by decide) rfl (fun _ => ?_) (fun h9 => absurd rfl h9)
  refine z_iload (pc2 := 454) C dL_law_452 1 rfl rfl ?_
  have fin : XW G B 7 469 [(6, .int q.1), (5, .int r.1), (4, .int (nI (10 * t))), (3, .ref (ad G 2017 0)), (2, .ref (ad G 11 0)), (1, .ref (ad G 10 0)), (0, .ref b)] [] q.2 (cu + 10) (su + 60) := by
    refine z_goto (tgt := 2361) C dL_law_469 (by decide) ?_
    exact z_sub (lv2 := [(4, .int (nI (10 * t))), (3, .ref (ad G 2017 0)), (2, .ref (ad G 11 0)), (1, .ref (ad G 10 0)), (0, .ref b)]) C [2, 3, 4, 5, 6] rfl (k q.2 g6)
  refine z_if_ne (tgt := 469) (pc2 := 457) C dL_law_454 (by decide) rfl (fun _ => fin) (fun h8 => ?_)
  refine z_aload_n (pc2 := 458) C dL_law_457 3 rfl rfl rfl ?_
  refine z_iconst (pc2 := 459) (v := 0) C dL_law_458 rfl rfl ?_
  refine z_lald (pc2 := 460) C hd17 dL_law_459 rfl (nI_in (c := 0) (N := 1) (by decide) (by decide)) rfl ?_
  refine z_iload (pc2 := 462) C dL_law_460 0 rfl rfl ?_
  refine z_i2l (pc2 := 463) C dL_law_462 rfl ?_
  refine z_lcmp (pc2 := 464) C dL_law_463 rfl ?_
  exact z_if_eq (tgt := 469) (pc2 := 467) C dL_law_464 (by decide) rfl (fun _ => fin) (fun h9 => absurd (cmp0 (g5 h8)) h9)
set_option maxRecDepth 20000 in
theorem lc_claim {G : XG} (hok : XK G) {B : XB} (C : XZ G B cL_law RL room_1 7) (hN : XNB B) {b L : Nat} {xs : Nat → Int32} (S : XSc G b L xs B) (hd10 : dm G 10 0) (hd11 : dm G 11 0) (hd17 : dm G 2017 0) {t : Nat} (ht : 10 * t + 10 ≤ L) (hL : L ≤ 5120) {RG : XO → Prop} (ok : OK_claim RG) {Ω : XO} (hR : RG Ω) {cu su : Nat} (hcu : cu + 10 ≤ 601024) (hsu : su + 60 ≤ 7293034) (k : ∀ Ω', RG Ω' → XW G B 7 2361 [(4, .int (nI (10 * t))), (3, .ref (ad G 2017 0)), (2, .ref (ad G 11 0)), (1, .ref (ad G 10 0)), (0, .ref b)] [] Ω' (cu + 10) (su + 60)) : XW G B 7 472 [(4, .int (nI (10 * t))), (3, .ref (ad G 2017 0)), (2, .ref (ad G 11 0)), (1, .ref (ad G 10 0)), (0, .ref b)] [] Ω cu su := by
  obtain ⟨r0, r, q, g1, g2, g3, g4, g5, g6⟩ := ok Ω (xs (10 * t + 1)) (xs (10 * t + 2)) (xs (10 * t + 3)) (xs (10 * t + 4)) (xs (10 * t + 5)) (xs (10 * t + 6)) hR
  refine z_aload_n (pc2 := 473) C dL_law_472 3 rfl rfl rfl ?_
  refine z_arg (k := 1) (j := 10 * t + 1) (p1 := 474) (p2 := 476) (p3 := 477) (p4 := 478) (p5 := 479) C S dL_law_473 dL_law_474 dL_law_476 dL_law_477 dL_law_478 4 0 rfl rfl (Or.inl ⟨rfl, rfl⟩) (by decide) rfl (by omega) hL rfl rfl rfl rfl rfl ?_
  refine z_arg (k := 2) (j := 10 * t + 2) (p1 := 480) (p2 := 482) (p3 := 483) (p4 := 484) (p5 := 485) C S dL_law_479 dL_law_480 dL_law_482 dL_law_483 dL_law_484 4 0 rfl rfl (Or.inl ⟨rfl, rfl⟩) (by decide) rfl (by omega) hL rfl rfl rfl rfl rfl ?_
  refine z_arg (k := 3) (j := 10 * t + 3) (p1 := 486) (p2 := 488) (p3 := 489) (p4 := 490) (p5 := 491) C S dL_law_485 dL_law_486 dL_law_488 dL_law_489 dL_law_490 4 0 rfl rfl (Or.inl ⟨rfl, rfl⟩) (by decide) rfl (by omega) hL rfl rfl rfl rfl rfl ?_
  refine z_arg (k := 4) (j := 10 * t + 4) (p1 := 492) (p2 := 494) (p3 := 495) (p4 := 496) (p5 := 497) C S dL_law_491 dL_law_492 dL_law_494 dL_law_495 dL_law_496 4 0 rfl rfl (Or.inl ⟨rfl, rfl⟩) (by decide) rfl (by omega) hL rfl rfl rfl rfl rfl ?_
  refine z_arg (k := 5) (j := 10 * t + 5) (p1 := 498) (p2 := 500) (p3 := 501) (p4 := 502) (p5 := 503) C S dL_law_497 dL_law_498 dL_law_500 dL_law_501 dL_law_502 4 0 rfl rfl (Or.inl ⟨rfl, rfl⟩) (by decide) rfl (by omega) hL rfl rfl rfl rfl rfl ?_
  refine z_arg (k := 6) (j := 10 * t + 6) (p1 := 504) (p2 := 506) (p3 := 508) (p4 := 509) (p5 := 510) C S dL_law_503 dL_law_504 dL_law_506 dL_law_508 dL_law_509 4 0 rfl rfl (Or.inr ⟨rfl, rfl⟩) (by decide) rfl (by omega) hL rfl rfl rfl rfl rfl ?_
  refine z_aload_n (pc2 := 511) C dL_law_510 1 rfl rfl rfl ?_
  refine x_ret (rest := []) (st2 := [.int r.1]) (pc2 := 514) (cu2 := cu + 10) (su2 := su + 60) (z_cH C hN kmL_claim rfl kk_L_127 (hL_claim hok hd10 hd17 (by rw [g1]; exact g2)) rfl rfl (Nat.le_of_ble_eq_true rfl) ⟨(Nat.le_of_ble_eq_true rfl), (Nat.le_of_ble_eq_true rfl)⟩ ⟨by show cu + 10 ≤ 601024; omega, by show su + 60 ≤ 7293034; omega⟩ dL_law_511) rfl rfl rfl rfl ?_
  refine z_istore (pc2 := 516) (lv2 := [(5, .int r.1), (4, .int (nI (10 * t))), (3, .ref (ad G 2017 0)), (2, .ref (ad G 11 0)), (1, .ref (ad G 10 0)), (0, .ref b)]) C dL_law_514 (by decide) rfl rfl ?_
  refine z_aload_n (pc2 := 517) C dL_law_516 3 rfl rfl rfl ?_
  refine z_arg (k := 1) (j := 10 * t + 1) (p1 := 518) (p2 := 520) (p3 := 521) (p4 := 522) (p5 := 523) C S dL_law_517 dL_law_518 dL_law_520 dL_law_521 dL_law_522 5 1 rfl rfl (Or.inl ⟨rfl, rfl⟩) (by decide) rfl (by omega) hL rfl rfl rfl rfl rfl ?_
  refine z_arg (k := 2) (j := 10 * t + 2) (p1 := 524) (p2 := 526) (p3 := 527) (p4 := 528) (p5 := 529) C S dL_law_523 dL_law_524 dL_law_526 dL_law_527 dL_law_528 5 1 rfl rfl (Or.inl ⟨rfl, rfl⟩) (by decide) rfl (by omega) hL rfl rfl rfl rfl rfl ?_
  refine z_arg (k := 3) (j := 10 * t + 3) (p1 := 530) (p2 := 532) (p3 := 533) (p4 := 534) (p5 := 535) C S dL_law_529 dL_law_530 dL_law_532 dL_law_533 dL_law_534 5 1 rfl rfl (Or.inl ⟨rfl, rfl⟩) (by decide) rfl (by omega) hL rfl rfl rfl rfl rfl ?_
  refine z_arg (k := 4) (j := 10 * t + 4) (p1 := 536) (p2 := 538) (p3 := 539) (p4 := 540) (p5 := 541) C S dL_law_535 dL_law_536 dL_law_538 dL_law_539 dL_law_540 5 1 rfl rfl (Or.inl ⟨rfl, rfl⟩) (by decide) rfl (by omega) hL rfl rfl rfl rfl rfl ?_
  refine z_arg (k := 5) (j := 10 * t + 5) (p1 := 542) (p2 := 544) (p3 := 545) (p4 := 546) (p5 := 547) C S dL_law_541 dL_law_542 dL_law_544 dL_law_545 dL_law_546 5 1 rfl rfl (Or.inl ⟨rfl, rfl⟩) (by decide) rfl (by omega) hL rfl rfl rfl rfl rfl ?_
  refine z_arg (k := 6) (j := 10 * t + 6) (p1 := 548) (p2 := 550) (p3 := 552) (p4 := 553) (p5 := 554) C S dL_law_547 dL_law_548 dL_law_550 dL_law_552 dL_law_553 5 1 rfl rfl (Or.inr ⟨rfl, rfl⟩) (by decide) rfl (by omega) hL rfl rfl rfl rfl rfl ?_
  refine x_ret (rest := []) (st2 := [.int q.1]) (pc2 := 557) (cu2 := cu + 10) (su2 := su + 60) (z_cV C hd11 (Nat.le_of_ble_eq_true rfl) kmX11_claim rfl kk_L_130 (tX11_claim hok hd11 g3) rfl rfl (Nat.le_of_ble_eq_true rfl) ⟨(Nat.le_of_ble_eq_true rfl), (Nat.le_of_ble_eq_true rfl)⟩ ⟨by show cu + 10 + 0 ≤ 601024; omega, by show su + 60 + 0 ≤ 7293034; omega⟩ dL_law_554) rfl rfl rfl rfl ?_
  refine z_istore (pc2 := 559) (lv2 := [(6, .int q.1), (5, .int r.1), (4, .int (nI (10 * t))), (3, .ref (ad G 2017 0)), (2, .ref (ad G 11 0)), (1, .ref (ad G 10 0)), (0, .ref b)]) C dL_law_557 (by decide) rfl rfl ?_
  refine z_aload_n (pc2 := 560) C dL_law_559 4 rfl rfl rfl ?_
  refine x_ret (rest := []) (st2 := [.int r.1]) (pc2 := 563) (cu2 := cu + 10) (su2 := su + 60) (z_cV C hd11 (Nat.le_of_ble_eq_true rfl) kmX11_thrown rfl kk_L_115 (tX11_thrown hok hd11 (r := r.1) (by rw [← g4]; rfl)) rfl rfl (Nat.le_of_ble_eq_true rfl) ⟨(Nat.le_of_ble_eq_true rfl), (Nat.le_of_ble_eq_true rfl)⟩ ⟨by show cu + 10 + 0 ≤ 601024; omega, by show su + 60 + 0 ≤ 7293034; omega⟩ dL_law_560) rfl rfl rfl rfl ?_
  refine z_iload (pc2 := 565) C dL_law_563 1 rfl rfl ?_
  refine z_icmp_eq (tgt := 570) (pc2 := 568) C dL_law_565 (by decide) rfl (fun _ => ?_) (fun h9 => absurd rfl h9)
  refine z_iload (pc2 := 572) C dL_law_570 1 rfl rfl ?_
  have fin : XW G B 7 587 [(6, .int q.1), (5, .int r.1), (4, .int (nI (10 * t))), (3, .ref (ad G 2017 0)), (2, .ref (ad G 11 0)), (1, .ref (ad G 10 0)), (0, .ref b)] [] q.2 (cu + 10) (su + 60) := by
    refine z_goto (tgt := 2361) C dL_law_587 (by decide) ?_
    exact z_sub (lv2 := [(4, .int (nI (10 * t))), (3, .ref (ad G 2017 0)), (2, .ref (ad G 11 0)), (1, .ref (ad G 10 0)), (0, .ref b)]) C [2, 3, 4, 5, 6] rfl (k q.2 g6)
  refine z_if_ne (tgt := 587) (pc2 := 575) C dL_law_572 (by decide) rfl (fun _ => fin) (fun h8 => ?_)
  refine z_aload_n (pc2 := 576) C dL_law_575 3 rfl rfl rfl ?_
  refine z_iconst (pc2 := 577) (v := 0) C dL_law_576 rfl rfl ?_
  refine z_lald (pc2 := 578) C hd17 dL_law_577 rfl (nI_in (c := 0) (N := 1) (by decide) (by decide)) rfl ?_
  refine z_iload (pc2 := 580) C dL_law_578 0 rfl rfl ?_
  refine z_i2l (pc2 := 581) C dL_law_580 rfl ?_
  refine z_lcmp (pc2 := 582) C dL_law_581 rfl ?_
  exact z_if_eq (tgt := 587) (pc2 := 585) C dL_law_582 (by decide) rfl (fun _ => fin) (fun h9 => absurd (cmp0 (g5 h8)) h9)
set_option maxRecDepth 20000 in
theorem lc_pool {G : XG} (hok : XK G) {B : XB} (C : XZ G B cL_law RL room_1 7) (hN : XNB B) {b L : Nat} {xs : Nat → Int32} (S : XSc G b L xs B) (hd10 : dm G 10 0) (hd11 : dm G 11 0) (hd17 : dm G 2017 0) {t : Nat} (ht : 10 * t + 10 ≤ L) (hL : L ≤ 5120) {RG : XO → Prop} (ok : OK_pool RG) {Ω : XO} (hR : RG Ω) {cu su : Nat} (hcu : cu + 10 ≤ 601024) (hsu : su + 60 ≤ 7293034) (k : ∀ Ω', RG Ω' → XW G B 7 2361 [(4, .int (nI (10 * t))), (3, .ref (ad G 2017 0)), (2, .ref (ad G 11 0)), (1, .ref (ad G 10 0)), (0, .ref b)] [] Ω' (cu + 1) (su + 6)) : XW G B 7 590 [(4, .int (nI (10 * t))), (3, .ref (ad G 2017 0)), (2, .ref (ad G 11 0)), (1, .ref (ad G 10 0)), (0, .ref b)] [] Ω cu su := by
  obtain ⟨r0, r, q, g1, g2, g3, g4, g5, g6⟩ := ok Ω (xs (10 * t + 1)) hR
  refine z_aload_n (pc2 := 591) C dL_law_590 3 rfl rfl rfl ?_
  refine z_arg (k := 1) (j := 10 * t + 1) (p1 := 592) (p2 := 594) (p3 := 595) (p4 := 596) (p5 := 597) C S dL_law_591 dL_law_592 dL_law_594 dL_law_595 dL_law_596 4 0 rfl rfl (Or.inl ⟨rfl, rfl⟩) (by decide) rfl (by omega) hL rfl rfl rfl rfl rfl ?_
  refine z_aload_n (pc2 := 598) C dL_law_597 1 rfl rfl rfl ?_
  refine x_ret (rest := []) (st2 := [.int r.1]) (pc2 := 601) (cu2 := cu + 1) (su2 := su + 6) (z_cH C hN kmL_pool rfl kk_L_131 (hL_pool hok hd10 hd17 (by rw [g1]; exact g2)) rfl rfl (Nat.le_of_ble_eq_true rfl) ⟨(Nat.le_of_ble_eq_true rfl), (Nat.le_of_ble_eq_true rfl)⟩ ⟨by show cu + 1 ≤ 601024; omega, by show su + 6 ≤ 7293034; omega⟩ dL_law_598) rfl rfl rfl rfl ?_
  refine z_istore (pc2 := 603) (lv2 := [(5, .int r.1), (4, .int (nI (10 * t))), (3, .ref (ad G 2017 0)), (2, .ref (ad G 11 0)), (1, .ref (ad G 10 0)), (0, .ref b)]) C dL_law_601 (by decide) rfl rfl ?_
  refine z_aload_n (pc2 := 604) C dL_law_603 3 rfl rfl rfl ?_
  refine z_arg (k := 1) (j := 10 * t + 1) (p1 := 605) (p2 := 607) (p3 := 608) (p4 := 609) (p5 := 610) C S dL_law_604 dL_law_605 dL_law_607 dL_law_608 dL_law_609 5 1 rfl rfl (Or.inl ⟨rfl, rfl⟩) (by decide) rfl (by omega) hL rfl rfl rfl rfl rfl ?_
  refine x_ret (rest := []) (st2 := [.int q.1]) (pc2 := 613) (cu2 := cu + 1) (su2 := su + 6) (z_cV C hd11 (Nat.le_of_ble_eq_true rfl) kmX11_pool rfl kk_L_134 (tX11_pool hok hd11 g3) rfl rfl (Nat.le_of_ble_eq_true rfl) ⟨(Nat.le_of_ble_eq_true rfl), (Nat.le_of_ble_eq_true rfl)⟩ ⟨by show cu + 1 + 0 ≤ 601024; omega, by show su + 6 + 0 ≤ 7293034; omega⟩ dL_law_610) rfl rfl rfl rfl ?_
  refine z_istore (pc2 := 615) (lv2 := [(6, .int q.1), (5, .int r.1), (4, .int (nI (10 * t))), (3, .ref (ad G 2017 0)), (2, .ref (ad G 11 0)), (1, .ref (ad G 10 0)), (0, .ref b)]) C dL_law_613 (by decide) rfl rfl ?_
  refine z_aload_n (pc2 := 616) C dL_law_615 4 rfl rfl rfl ?_
  refine x_ret (rest := []) (st2 := [.int r.1]) (pc2 := 619) (cu2 := cu + 1) (su2 := su + 6) (z_cV C hd11 (Nat.le_of_ble_eq_true rfl) kmX11_thrown rfl kk_L_115 (tX11_thrown hok hd11 (r := r.1) (by rw [← g4]; rfl)) rfl rfl (Nat.le_of_ble_eq_true rfl) ⟨(Nat.le_of_ble_eq_true rfl), (Nat.le_of_ble_eq_true rfl)⟩ ⟨by show cu + 1 + 0 ≤ 601024; omega, by show su + 6 + 0 ≤ 7293034; omega⟩ dL_law_616) rfl rfl rfl rfl ?_
  refine z_iload (pc2 := 621) C dL_law_619 1 rfl rfl ?_
  refine z_icmp_eq (tgt := 626) (pc2 := 624) C dL_law_621 (by decide) rfl (fun _ => ?_) (fun h9 => absurd rfl h9)
  refine z_iload (pc2 := 628) C dL_law_626 1 rfl rfl ?_
  have fin : XW G B 7 643 [(6, .int q.1), (5, .int r.1), (4, .int (nI (10 * t))), (3, .ref (ad G 2017 0)), (2, .ref (ad G 11 0)), (1, .ref (ad G 10 0)), (0, .ref b)] [] q.2 (cu + 1) (su + 6) := by
    refine z_goto (tgt := 2361) C dL_law_643 (by decide) ?_
    exact z_sub (lv2 := [(4, .int (nI (10 * t))), (3, .ref (ad G 2017 0)), (2, .ref (ad G 11 0)), (1, .ref (ad G 10 0)), (0, .ref b)]) C [2, 3, 4, 5, 6] rfl (k q.2 g6)
  refine z_if_ne (tgt := 643) (pc2 := 631) C dL_law_628 (by decide) rfl (fun _ => fin) (fun h8 => ?_)
  refine z_aload_n (pc2 := 632) C dL_law_631 3 rfl rfl rfl ?_
  refine z_iconst (pc2 := 633) (v := 0) C dL_law_632 rfl rfl ?_
  refine z_lald (pc2 := 634) C hd17 dL_law_633 rfl (nI_in (c := 0) (N := 1) (by decide) (by decide)) rfl ?_
  refine z_iload (pc2 := 636) C dL_law_634 0 rfl rfl ?_
  refine z_i2l (pc2 := 637) C dL_law_636 rfl ?_
  refine z_lcmp (pc2 := 638) C dL_law_637 rfl ?_
  exact z_if_eq (tgt := 643) (pc2 := 641) C dL_law_638 (by decide) rfl (fun _ => fin) (fun h9 => absurd (cmp0 (g5 h8)) h9)
set_option maxRecDepth 20000 in
theorem lc_make {G : XG} (hok : XK G) {B : XB} (C : XZ G B cL_law RL room_1 7) (hN : XNB B) {b L : Nat} {xs : Nat → Int32} (S : XSc G b L xs B) (hd10 : dm G 10 0) (hd11 : dm G 11 0) (hd17 : dm G 2017 0) {t : Nat} (ht : 10 * t + 10 ≤ L) (hL : L ≤ 5120) {RG : XO → Prop} (ok : OK_make RG) {Ω : XO} (hR : RG Ω) {cu su : Nat} (hcu : cu + 10 ≤ 601024) (hsu : su + 60 ≤ 7293034) (k : ∀ Ω', RG Ω' → XW G B 7 2361 [(4, .int (nI (10 * t))), (3, .ref (ad G 2017 0)), (2, .ref (ad G 11 0)), (1, .ref (ad G 10 0)), (0, .ref b)] [] Ω' (cu + 6) (su + 36)) : XW G B 7 646 [(4, .int (nI (10 * t))), (3, .ref (ad G 2017 0)), (2, .ref (ad G 11 0)), (1, .ref (ad G 10 0)), (0, .ref b)] [] Ω cu su := by
  obtain ⟨r0, r, q, g1, g2, g3, g4, g5, g6⟩ := ok Ω (xs (10 * t + 1)) (xs (10 * t + 2)) (xs (10 * t + 3)) (xs (10 * t + 4)) hR
  refine z_aload_n (pc2 := 647) C dL_law_646 3 rfl rfl rfl ?_
  refine z_arg (k := 1) (j := 10 * t + 1) (p1 := 648) (p2 := 650) (p3 := 651) (p4 := 652) (p5 := 653) C S dL_law_647 dL_law_648 dL_law_650 dL_law_651 dL_law_652 4 0 rfl rfl (Or.inl ⟨rfl, rfl⟩) (by decide) rfl (by omega) hL rfl rfl rfl rfl rfl ?_
  refine z_arg (k := 2) (j := 10 * t + 2) (p1 := 654) (p2 := 656) (p3 := 657) (p4 := 658) (p5 := 659) C S dL_law_653 dL_law_654 dL_law_656 dL_law_657 dL_law_658 4 0 rfl rfl (Or.inl ⟨rfl, rfl⟩) (by decide) rfl (by omega) hL rfl rfl rfl rfl rfl ?_
  refine z_arg (k := 3) (j := 10 * t + 3) (p1 := 660) (p2 := 662) (p3 := 663) (p4 := 664) (p5 := 665) C S dL_law_659 dL_law_660 dL_law_662 dL_law_663 dL_law_664 4 0 rfl rfl (Or.inl ⟨rfl, rfl⟩) (by decide) rfl (by omega) hL rfl rfl rfl rfl rfl ?_
  refine z_arg (k := 4) (j := 10 * t + 4) (p1 := 666) (p2 := 668) (p3 := 669) (p4 := 670) (p5 := 671) C S dL_law_665 dL_law_666 dL_law_668 dL_law_669 dL_law_670 4 0 rfl rfl (Or.inl ⟨rfl, rfl⟩) (by decide) rfl (by omega) hL rfl rfl rfl rfl rfl ?_
  refine z_aload_n (pc2 := 672) C dL_law_671 1 rfl rfl rfl ?_
  refine x_ret (rest := []) (st2 := [.int r.1]) (pc2 := 675) (cu2 := cu + 6) (su2 := su + 36) (z_cH C hN kmL_make rfl kk_L_135 (hL_make hok hd10 hd17 g1 g2) rfl rfl (Nat.le_of_ble_eq_true rfl) ⟨(Nat.le_of_ble_eq_true rfl), (Nat.le_of_ble_eq_true rfl)⟩ ⟨by show cu + 6 ≤ 601024; omega, by show su + 36 ≤ 7293034; omega⟩ dL_law_672) rfl rfl rfl rfl ?_
  refine z_istore (pc2 := 677) (lv2 := [(5, .int r.1), (4, .int (nI (10 * t))), (3, .ref (ad G 2017 0)), (2, .ref (ad G 11 0)), (1, .ref (ad G 10 0)), (0, .ref b)]) C dL_law_675 (by decide) rfl rfl ?_
  refine z_aload_n (pc2 := 678) C dL_law_677 3 rfl rfl rfl ?_
  refine z_arg (k := 1) (j := 10 * t + 1) (p1 := 679) (p2 := 681) (p3 := 682) (p4 := 683) (p5 := 684) C S dL_law_678 dL_law_679 dL_law_681 dL_law_682 dL_law_683 5 1 rfl rfl (Or.inl ⟨rfl, rfl⟩) (by decide) rfl (by omega) hL rfl rfl rfl rfl rfl ?_
  refine z_arg (k := 2) (j := 10 * t + 2) (p1 := 685) (p2 := 687) (p3 := 688) (p4 := 689) (p5 := 690) C S dL_law_684 dL_law_685 dL_law_687 dL_law_688 dL_law_689 5 1 rfl rfl (Or.inl ⟨rfl, rfl⟩) (by decide) rfl (by omega) hL rfl rfl rfl rfl rfl ?_
  refine z_arg (k := 3) (j := 10 * t + 3) (p1 := 691) (p2 := 693) (p3 := 694) (p4 := 695) (p5 := 696) C S dL_law_690 dL_law_691 dL_law_693 dL_law_694 dL_law_695 5 1 rfl rfl (Or.inl ⟨rfl, rfl⟩) (by decide) rfl (by omega) hL rfl rfl rfl rfl rfl ?_
  refine z_arg (k := 4) (j := 10 * t + 4) (p1 := 697) (p2 := 699) (p3 := 700) (p4 := 701) (p5 := 702) C S dL_law_696 dL_law_697 dL_law_699 dL_law_700 dL_law_701 5 1 rfl rfl (Or.inl ⟨rfl, rfl⟩) (by decide) rfl (by omega) hL rfl rfl rfl rfl rfl ?_
  refine x_ret (rest := []) (st2 := [.int q.1]) (pc2 := 705) (cu2 := cu + 6) (su2 := su + 36) (z_cV C hd11 (Nat.le_of_ble_eq_true rfl) kmX11_make rfl kk_L_138 (tX11_make hok hd11 g3) rfl rfl (Nat.le_of_ble_eq_true rfl) ⟨(Nat.le_of_ble_eq_true rfl), (Nat.le_of_ble_eq_true rfl)⟩ ⟨by show cu + 6 + 0 ≤ 601024; omega, by show su + 36 + 0 ≤ 7293034; omega⟩ dL_law_702) rfl rfl rfl rfl ?_
  refine z_istore (pc2 := 707) (lv2 := [(6, .int q.1), (5, .int r.1), (4, .int (nI (10 * t))), (3, .ref (ad G 2017 0)), (2, .ref (ad G 11 0)), (1, .ref (ad G 10 0)), (0, .ref b)]) C dL_law_705 (by decide) rfl rfl ?_
  refine z_aload_n (pc2 := 708) C dL_law_707 4 rfl rfl rfl ?_
  refine x_ret (rest := []) (st2 := [.int r.1]) (pc2 := 711) (cu2 := cu + 6) (su2 := su + 36) (z_cV C hd11 (Nat.le_of_ble_eq_true rfl) kmX11_thrown rfl kk_L_115 (tX11_thrown hok hd11 (r := r.1) (by rw [← g4]; rfl)) rfl rfl (Nat.le_of_ble_eq_true rfl) ⟨(Nat.le_of_ble_eq_true rfl), (Nat.le_of_ble_eq_true rfl)⟩ ⟨by show cu + 6 + 0 ≤ 601024; omega, by show su + 36 + 0 ≤ 7293034; omega⟩ dL_law_708) rfl rfl rfl rfl ?_
  refine z_iload (pc2 := 713) C dL_law_711 1 rfl rfl ?_
  refine z_icmp_eq (tgt := 718) (pc2 := 716) C dL_law_713 (by decide) rfl (fun _ => ?_) (fun h9 => absurd rfl h9)
  refine z_iload (pc2 := 720) C dL_law_718 1 rfl rfl ?_
  have fin : XW G B 7 735 [(6, .int q.1), (5, .int r.1), (4, .int (nI (10 * t))), (3, .ref (ad G 2017 0)), (2, .ref (ad G 11 0)), (1, .ref (ad G 10 0)), (0, .ref b)] [] q.2 (cu + 6) (su + 36) := by
    refine z_goto (tgt := 2361) C dL_law_735 (by decide) ?_
    exact z_sub (lv2 := [(4, .int (nI (10 * t))), (3, .ref (ad G 2017 0)), (2, .ref (ad G 11 0)), (1, .ref (ad G 10 0)), (0, .ref b)]) C [2, 3, 4, 5, 6] rfl (k q.2 g6)
  refine z_if_ne (tgt := 735) (pc2 := 723) C dL_law_720 (by decide) rfl (fun _ => fin) (fun h8 => ?_)
  refine z_aload_n (pc2 := 724) C dL_law_723 3 rfl rfl rfl ?_
  refine z_iconst (pc2 := 725) (v := 0) C dL_law_724 rfl rfl ?_
  refine z_lald (pc2 := 726) C hd17 dL_law_725 rfl (nI_in (c := 0) (N := 1) (by decide) (by decide)) rfl ?_
  refine z_iload (pc2 := 728) C dL_law_726 0 rfl rfl ?_
  refine z_i2l (pc2 := 729) C dL_law_728 rfl ?_
  refine z_lcmp (pc2 := 730) C dL_law_729 rfl ?_
  exact z_if_eq (tgt := 735) (pc2 := 733) C dL_law_730 (by decide) rfl (fun _ => fin) (fun h9 => absurd (cmp0 (g5 h8)) h9)
set_option maxRecDepth 20000 in
theorem lc_head {G : XG} (hok : XK G) {B : XB} (C : XZ G B cL_law RL room_1 7) (hN : XNB B) {b L : Nat} {xs : Nat → Int32} (S : XSc G b L xs B) (hd10 : dm G 10 0) (hd11 : dm G 11 0) (hd17 : dm G 2017 0) {t : Nat} (ht : 10 * t + 10 ≤ L) (hL : L ≤ 5120) {RG : XO → Prop} (ok : OK_head RG) {Ω : XO} (hR : RG Ω) {cu su : Nat} (hcu : cu + 10 ≤ 601024) (hsu : su + 60 ≤ 7293034) (k : ∀ Ω', RG Ω' → XW G B 7 2361 [(4, .int (nI (10 * t))), (3, .ref (ad G 2017 0)), (2, .ref (ad G 11 0)), (1, .ref (ad G 10 0)), (0, .ref b)] [] Ω' (cu + 1) (su + 6)) : XW G B 7 738 [(4, .int (nI (10 * t))), (3, .ref (ad G 2017 0)), (2, .ref (ad G 11 0)), (1, .ref (ad G 10 0)), (0, .ref b)] [] Ω cu su := by
  obtain ⟨r0, r, q, g1, g2, g3, g4, g5, g6⟩ := ok Ω (xs (10 * t + 1)) hR
  refine z_aload_n (pc2 := 739) C dL_law_738 3 rfl rfl rfl ?_
  refine z_arg (k := 1) (j := 10 * t + 1) (p1 := 740) (p2 := 742) (p3 := 743) (p4 := 744) (p5 := 745) C S dL_law_739 dL_law_740 dL_law_742 dL_law_743 dL_law_744 4 0 rfl rfl (Or.inl ⟨rfl, rfl⟩) (by decide) rfl (by omega) hL rfl rfl rfl rfl rfl ?_
  refine z_aload_n (pc2 := 746) C dL_law_745 1 rfl rfl rfl ?_
  refine x_ret (rest := []) (st2 := [.int r.1]) (pc2 := 749) (cu2 := cu + 1) (su2 := su + 6) (z_cH C hN kmL_head rfl kk_L_139 (hL_head hok hd10 hd17 (by rw [g1]; exact g2)) rfl rfl (Nat.le_of_ble_eq_true rfl) ⟨(Nat.le_of_ble_eq_true rfl), (Nat.le_of_ble_eq_true rfl)⟩ ⟨by show cu + 1 ≤ 601024; omega, by show su + 6 ≤ 7293034; omega⟩ dL_law_746) rfl rfl rfl rfl ?_
  refine z_istore (pc2 := 751) (lv2 := [(5, .int r.1), (4, .int (nI (10 * t))), (3, .ref (ad G 2017 0)), (2, .ref (ad G 11 0)), (1, .ref (ad G 10 0)), (0, .ref b)]) C dL_law_749 (by decide) rfl rfl ?_
  refine z_aload_n (pc2 := 752) C dL_law_751 3 rfl rfl rfl ?_
  refine z_arg (k := 1) (j := 10 * t + 1) (p1 := 753) (p2 := 755) (p3 := 756) (p4 := 757) (p5 := 758) C S dL_law_752 dL_law_753 dL_law_755 dL_law_756 dL_law_757 5 1 rfl rfl (Or.inl ⟨rfl, rfl⟩) (by decide) rfl (by omega) hL rfl rfl rfl rfl rfl ?_
  refine x_ret (rest := []) (st2 := [.int q.1]) (pc2 := 761) (cu2 := cu + 1) (su2 := su + 6) (z_cV C hd11 (Nat.le_of_ble_eq_true rfl) kmX11_head rfl kk_L_141 (tX11_head hok hd11 g3) rfl rfl (Nat.le_of_ble_eq_true rfl) ⟨(Nat.le_of_ble_eq_true rfl), (Nat.le_of_ble_eq_true rfl)⟩ ⟨by show cu + 1 + 0 ≤ 601024; omega, by show su + 6 + 0 ≤ 7293034; omega⟩ dL_law_758) rfl rfl rfl rfl ?_
  refine z_istore (pc2 := 763) (lv2 := [(6, .int q.1), (5, .int r.1), (4, .int (nI (10 * t))), (3, .ref (ad G 2017 0)), (2, .ref (ad G 11 0)), (1, .ref (ad G 10 0)), (0, .ref b)]) C dL_law_761 (by decide) rfl rfl ?_
  refine z_aload_n (pc2 := 764) C dL_law_763 4 rfl rfl rfl ?_
  refine x_ret (rest := []) (st2 := [.int r.1]) (pc2 := 767) (cu2 := cu + 1) (su2 := su + 6) (z_cV C hd11 (Nat.le_of_ble_eq_true rfl) kmX11_thrown rfl kk_L_115 (tX11_thrown hok hd11 (r := r.1) (by rw [← g4]; rfl)) rfl rfl (Nat.le_of_ble_eq_true rfl) ⟨(Nat.le_of_ble_eq_true rfl), (Nat.le_of_ble_eq_true rfl)⟩ ⟨by show cu + 1 + 0 ≤ 601024; omega, by show su + 6 + 0 ≤ 7293034; omega⟩ dL_law_764) rfl rfl rfl rfl ?_
  refine z_iload (pc2 := 769) C dL_law_767 1 rfl rfl ?_
  refine z_icmp_eq (tgt := 774) (pc2 := 772) C dL_law_769 (by decide) rfl (fun _ => ?_) (fun h9 => absurd rfl h9)
  refine z_iload (pc2 := 776) C dL_law_774 1 rfl rfl ?_
  have fin : XW G B 7 791 [(6, .int q.1), (5, .int r.1), (4, .int (nI (10 * t))), (3, .ref (ad G 2017 0)), (2, .ref (ad G 11 0)), (1, .ref (ad G 10 0)), (0, .ref b)] [] q.2 (cu + 1) (su + 6) := by
    refine z_goto (tgt := 2361) C dL_law_791 (by decide) ?_
    exact z_sub (lv2 := [(4, .int (nI (10 * t))), (3, .ref (ad G 2017 0)), (2, .ref (ad G 11 0)), (1, .ref (ad G 10 0)), (0, .ref b)]) C [2, 3, 4, 5, 6] rfl (k q.2 g6)
  refine z_if_ne (tgt := 791) (pc2 := 779) C dL_law_776 (by decide) rfl (fun _ => fin) (fun h8 => ?_)
  refine z_aload_n (pc2 := 780) C dL_law_779 3 rfl rfl rfl ?_
  refine z_iconst (pc2 := 781) (v := 0) C dL_law_780 rfl rfl ?_
  refine z_lald (pc2 := 782) C hd17 dL_law_781 rfl (nI_in (c := 0) (N := 1) (by decide) (by decide)) rfl ?_
  refine z_iload (pc2 := 784) C dL_law_782 0 rfl rfl ?_
  refine z_i2l (pc2 := 785) C dL_law_784 rfl ?_
  refine z_lcmp (pc2 := 786) C dL_law_785 rfl ?_
  exact z_if_eq (tgt := 791) (pc2 := 789) C dL_law_786 (by decide) rfl (fun _ => fin) (fun h9 => absurd (cmp0 (g5 h8)) h9)
set_option maxRecDepth 20000 in
theorem lc_base {G : XG} (hok : XK G) {B : XB} (C : XZ G B cL_law RL room_1 7) (hN : XNB B) {b L : Nat} {xs : Nat → Int32} (S : XSc G b L xs B) (hd10 : dm G 10 0) (hd11 : dm G 11 0) (hd17 : dm G 2017 0) {t : Nat} (ht : 10 * t + 10 ≤ L) (hL : L ≤ 5120) {RG : XO → Prop} (ok : OK_base RG) {Ω : XO} (hR : RG Ω) {cu su : Nat} (hcu : cu + 10 ≤ 601024) (hsu : su + 60 ≤ 7293034) (k : ∀ Ω', RG Ω' → XW G B 7 2361 [(4, .int (nI (10 * t))), (3, .ref (ad G 2017 0)), (2, .ref (ad G 11 0)), (1, .ref (ad G 10 0)), (0, .ref b)] [] Ω' (cu + 2) (su + 12)) : XW G B 7 794 [(4, .int (nI (10 * t))), (3, .ref (ad G 2017 0)), (2, .ref (ad G 11 0)), (1, .ref (ad G 10 0)), (0, .ref b)] [] Ω cu su := by
  obtain ⟨r0, r, q, g1, g2, g3, g4, g5, g6⟩ := ok Ω (xs (10 * t + 1)) (xs (10 * t + 2)) hR
  refine z_aload_n (pc2 := 795) C dL_law_794 3 rfl rfl rfl ?_
  refine z_arg (k := 1) (j := 10 * t + 1) (p1 := 796) (p2 := 798) (p3 := 799) (p4 := 800) (p5 := 801) C S dL_law_795 dL_law_796 dL_law_798 dL_law_799 dL_law_800 4 0 rfl rfl (Or.inl ⟨rfl, rfl⟩) (by decide) rfl (by omega) hL rfl rfl rfl rfl rfl ?_
  refine z_arg (k := 2) (j := 10 * t + 2) (p1 := 802) (p2 := 804) (p3 := 805) (p4 := 806) (p5 := 807) C S dL_law_801 dL_law_802 dL_law_804 dL_law_805 dL_law_806 4 0 rfl rfl (Or.inl ⟨rfl, rfl⟩) (by decide) rfl (by omega) hL rfl rfl rfl rfl rfl ?_
  refine z_aload_n (pc2 := 808) C dL_law_807 1 rfl rfl rfl ?_
  refine x_ret (rest := []) (st2 := [.int r.1]) (pc2 := 811) (cu2 := cu + 2) (su2 := su + 12) (z_cH C hN kmL_base rfl kk_L_142 (hL_base hok hd10 hd17 (by rw [g1]; exact g2)) rfl rfl (Nat.le_of_ble_eq_true rfl) ⟨(Nat.le_of_ble_eq_true rfl), (Nat.le_of_ble_eq_true rfl)⟩ ⟨by show cu + 2 ≤ 601024; omega, by show su + 12 ≤ 7293034; omega⟩ dL_law_808) rfl rfl rfl rfl ?_
  refine z_istore (pc2 := 813) (lv2 := [(5, .int r.1), (4, .int (nI (10 * t))), (3, .ref (ad G 2017 0)), (2, .ref (ad G 11 0)), (1, .ref (ad G 10 0)), (0, .ref b)]) C dL_law_811 (by decide) rfl rfl ?_
  refine z_aload_n (pc2 := 814) C dL_law_813 3 rfl rfl rfl ?_
  refine z_arg (k := 1) (j := 10 * t + 1) (p1 := 815) (p2 := 817) (p3 := 818) (p4 := 819) (p5 := 820) C S dL_law_814 dL_law_815 dL_law_817 dL_law_818 dL_law_819 5 1 rfl rfl (Or.inl ⟨rfl, rfl⟩) (by decide) rfl (by omega) hL rfl rfl rfl rfl rfl ?_
  refine z_arg (k := 2) (j := 10 * t + 2) (p1 := 821) (p2 := 823) (p3 := 824) (p4 := 825) (p5 := 826) C S dL_law_820 dL_law_821 dL_law_823 dL_law_824 dL_law_825 5 1 rfl rfl (Or.inl ⟨rfl, rfl⟩) (by decide) rfl (by omega) hL rfl rfl rfl rfl rfl ?_
  refine x_ret (rest := []) (st2 := [.int q.1]) (pc2 := 829) (cu2 := cu + 2) (su2 := su + 12) (z_cV C hd11 (Nat.le_of_ble_eq_true rfl) kmX11_base rfl kk_L_144 (tX11_base hok hd11 g3) rfl rfl (Nat.le_of_ble_eq_true rfl) ⟨(Nat.le_of_ble_eq_true rfl), (Nat.le_of_ble_eq_true rfl)⟩ ⟨by show cu + 2 + 0 ≤ 601024; omega, by show su + 12 + 0 ≤ 7293034; omega⟩ dL_law_826) rfl rfl rfl rfl ?_
  refine z_istore (pc2 := 831) (lv2 := [(6, .int q.1), (5, .int r.1), (4, .int (nI (10 * t))), (3, .ref (ad G 2017 0)), (2, .ref (ad G 11 0)), (1, .ref (ad G 10 0)), (0, .ref b)]) C dL_law_829 (by decide) rfl rfl ?_
  refine z_aload_n (pc2 := 832) C dL_law_831 4 rfl rfl rfl ?_
  refine x_ret (rest := []) (st2 := [.int r.1]) (pc2 := 835) (cu2 := cu + 2) (su2 := su + 12) (z_cV C hd11 (Nat.le_of_ble_eq_true rfl) kmX11_thrown rfl kk_L_115 (tX11_thrown hok hd11 (r := r.1) (by rw [← g4]; rfl)) rfl rfl (Nat.le_of_ble_eq_true rfl) ⟨(Nat.le_of_ble_eq_true rfl), (Nat.le_of_ble_eq_true rfl)⟩ ⟨by show cu + 2 + 0 ≤ 601024; omega, by show su + 12 + 0 ≤ 7293034; omega⟩ dL_law_832) rfl rfl rfl rfl ?_
  refine z_iload (pc2 := 837) C dL_law_835 1 rfl rfl ?_
  refine z_icmp_eq (tgt := 842) (pc2 := 840) C dL_law_837 (by decide) rfl (fun _ => ?_) (fun h9 => absurd rfl h9)
  refine z_iload (pc2 := 844) C dL_law_842 1 rfl rfl ?_
  have fin : XW G B 7 859 [(6, .int q.1), (5, .int r.1), (4, .int (nI (10 * t))), (3, .ref (ad G 2017 0)), (2, .ref (ad G 11 0)), (1, .ref (ad G 10 0)), (0, .ref b)] [] q.2 (cu + 2) (su + 12) := by
    refine z_goto (tgt := 2361) C dL_law_859 (by decide) ?_
    exact z_sub (lv2 := [(4, .int (nI (10 * t))), (3, .ref (ad G 2017 0)), (2, .ref (ad G 11 0)), (1, .ref (ad G 10 0)), (0, .ref b)]) C [2, 3, 4, 5, 6] rfl (k q.2 g6)
  refine z_if_ne (tgt := 859) (pc2 := 847) C dL_law_844 (by decide) rfl (fun _ => fin) (fun h8 => ?_)
  refine z_aload_n (pc2 := 848) C dL_law_847 3 rfl rfl rfl ?_
  refine z_iconst (pc2 := 849) (v := 0) C dL_law_848 rfl rfl ?_
  refine z_lald (pc2 := 850) C hd17 dL_law_849 rfl (nI_in (c := 0) (N := 1) (by decide) (by decide)) rfl ?_
  refine z_iload (pc2 := 852) C dL_law_850 0 rfl rfl ?_
  refine z_i2l (pc2 := 853) C dL_law_852 rfl ?_
  refine z_lcmp (pc2 := 854) C dL_law_853 rfl ?_
  exact z_if_eq (tgt := 859) (pc2 := 857) C dL_law_854 (by decide) rfl (fun _ => fin) (fun h9 => absurd (cmp0 (g5 h8)) h9)
set_option maxRecDepth 20000 in
theorem lc_used {G : XG} (hok : XK G) {B : XB} (C : XZ G B cL_law RL room_1 7) (hN : XNB B) {b L : Nat} {xs : Nat → Int32} (S : XSc G b L xs B) (hd10 : dm G 10 0) (hd11 : dm G 11 0) (hd17 : dm G 2017 0) {t : Nat} (ht : 10 * t + 10 ≤ L) (hL : L ≤ 5120) {RG : XO → Prop} (ok : OK_used RG) {Ω : XO} (hR : RG Ω) {cu su : Nat} (hcu : cu + 10 ≤ 601024) (hsu : su + 60 ≤ 7293034) (k : ∀ Ω', RG Ω' → XW G B 7 2361 [(4, .int (nI (10 * t))), (3, .ref (ad G 2017 0)), (2, .ref (ad G 11 0)), (1, .ref (ad G 10 0)), (0, .ref b)] [] Ω' (cu + 2) (su + 12)) : XW G B 7 862 [(4, .int (nI (10 * t))), (3, .ref (ad G 2017 0)), (2, .ref (ad G 11 0)), (1, .ref (ad G 10 0)), (0, .ref b)] [] Ω cu su := by
  obtain ⟨r0, r, q, g1, g2, g3, g4, g5, g6⟩ := ok Ω (xs (10 * t + 1)) (xs (10 * t + 2)) hR
  refine z_aload_n (pc2 := 863) C dL_law_862 3 rfl rfl rfl ?_
  refine z_arg (k := 1) (j := 10 * t + 1) (p1 := 864) (p2 := 866) (p3 := 867) (p4 := 868) (p5 := 869) C S dL_law_863 dL_law_864 dL_law_866 dL_law_867 dL_law_868 4 0 rfl rfl (Or.inl ⟨rfl, rfl⟩) (by decide) rfl (by omega) hL rfl rfl rfl rfl rfl ?_
  refine z_arg (k := 2) (j := 10 * t + 2) (p1 := 870) (p2 := 872) (p3 := 873) (p4 := 874) (p5 := 875) C S dL_law_869 dL_law_870 dL_law_872 dL_law_873 dL_law_874 4 0 rfl rfl (Or.inl ⟨rfl, rfl⟩) (by decide) rfl (by omega) hL rfl rfl rfl rfl rfl ?_
  refine z_aload_n (pc2 := 876) C dL_law_875 1 rfl rfl rfl ?_
  refine x_ret (rest := []) (st2 := [.int r.1]) (pc2 := 879) (cu2 := cu + 2) (su2 := su + 12) (z_cH C hN kmL_used rfl kk_L_145 (hL_used hok hd10 hd17 (by rw [g1]; exact g2)) rfl rfl (Nat.le_of_ble_eq_true rfl) ⟨(Nat.le_of_ble_eq_true rfl), (Nat.le_of_ble_eq_true rfl)⟩ ⟨by show cu + 2 ≤ 601024; omega, by show su + 12 ≤ 7293034; omega⟩ dL_law_876) rfl rfl rfl rfl ?_
  refine z_istore (pc2 := 881) (lv2 := [(5, .int r.1), (4, .int (nI (10 * t))), (3, .ref (ad G 2017 0)), (2, .ref (ad G 11 0)), (1, .ref (ad G 10 0)), (0, .ref b)]) C dL_law_879 (by decide) rfl rfl ?_
  refine z_aload_n (pc2 := 882) C dL_law_881 3 rfl rfl rfl ?_
  refine z_arg (k := 1) (j := 10 * t + 1) (p1 := 883) (p2 := 885) (p3 := 886) (p4 := 887) (p5 := 888) C S dL_law_882 dL_law_883 dL_law_885 dL_law_886 dL_law_887 5 1 rfl rfl (Or.inl ⟨rfl, rfl⟩) (by decide) rfl (by omega) hL rfl rfl rfl rfl rfl ?_
  refine z_arg (k := 2) (j := 10 * t + 2) (p1 := 889) (p2 := 891) (p3 := 892) (p4 := 893) (p5 := 894) C S dL_law_888 dL_law_889 dL_law_891 dL_law_892 dL_law_893 5 1 rfl rfl (Or.inl ⟨rfl, rfl⟩) (by decide) rfl (by omega) hL rfl rfl rfl rfl rfl ?_
  refine x_ret (rest := []) (st2 := [.int q.1]) (pc2 := 897) (cu2 := cu + 2) (su2 := su + 12) (z_cV C hd11 (Nat.le_of_ble_eq_true rfl) kmX11_used rfl kk_L_147 (tX11_used hok hd11 g3) rfl rfl (Nat.le_of_ble_eq_true rfl) ⟨(Nat.le_of_ble_eq_true rfl), (Nat.le_of_ble_eq_true rfl)⟩ ⟨by show cu + 2 + 0 ≤ 601024; omega, by show su + 12 + 0 ≤ 7293034; omega⟩ dL_law_894) rfl rfl rfl rfl ?_
  refine z_istore (pc2 := 899) (lv2 := [(6, .int q.1), (5, .int r.1), (4, .int (nI (10 * t))), (3, .ref (ad G 2017 0)), (2, .ref (ad G 11 0)), (1, .ref (ad G 10 0)), (0, .ref b)]) C dL_law_897 (by decide) rfl rfl ?_
  refine z_aload_n (pc2 := 900) C dL_law_899 4 rfl rfl rfl ?_
  refine x_ret (rest := []) (st2 := [.int r.1]) (pc2 := 903) (cu2 := cu + 2) (su2 := su + 12) (z_cV C hd11 (Nat.le_of_ble_eq_true rfl) kmX11_thrown rfl kk_L_115 (tX11_thrown hok hd11 (r := r.1) (by rw [← g4]; rfl)) rfl rfl (Nat.le_of_ble_eq_true rfl) ⟨(Nat.le_of_ble_eq_true rfl), (Nat.le_of_ble_eq_true rfl)⟩ ⟨by show cu + 2 + 0 ≤ 601024; omega, by show su + 12 + 0 ≤ 7293034; omega⟩ dL_law_900) rfl rfl rfl rfl ?_
  refine z_iload (pc2 := 905) C dL_law_903 1 rfl rfl ?_
  refine z_icmp_eq (tgt := 910) (pc2 := 908) C dL_law_905 (by decide) rfl (fun _ => ?_) (fun h9 => absurd rfl h9)
  refine z_iload (pc2 := 912) C dL_law_910 1 rfl rfl ?_
  have fin : XW G B 7 927 [(6, .int q.1), (5, .int r.1), (4, .int (nI (10 * t))), (3, .ref (ad G 2017 0)), (2, .ref (ad G 11 0)), (1, .ref (ad G 10 0)), (0, .ref b)] [] q.2 (cu + 2) (su + 12) := by
    refine z_goto (tgt := 2361) C dL_law_927 (by decide) ?_
    exact z_sub (lv2 := [(4, .int (nI (10 * t))), (3, .ref (ad G 2017 0)), (2, .ref (ad G 11 0)), (1, .ref (ad G 10 0)), (0, .ref b)]) C [2, 3, 4, 5, 6] rfl (k q.2 g6)
  refine z_if_ne (tgt := 927) (pc2 := 915) C dL_law_912 (by decide) rfl (fun _ => fin) (fun h8 => ?_)
  refine z_aload_n (pc2 := 916) C dL_law_915 3 rfl rfl rfl ?_
  refine z_iconst (pc2 := 917) (v := 0) C dL_law_916 rfl rfl ?_
  refine z_lald (pc2 := 918) C hd17 dL_law_917 rfl (nI_in (c := 0) (N := 1) (by decide) (by decide)) rfl ?_
  refine z_iload (pc2 := 920) C dL_law_918 0 rfl rfl ?_
  refine z_i2l (pc2 := 921) C dL_law_920 rfl ?_
  refine z_lcmp (pc2 := 922) C dL_law_921 rfl ?_
  exact z_if_eq (tgt := 927) (pc2 := 925) C dL_law_922 (by decide) rfl (fun _ => fin) (fun h9 => absurd (cmp0 (g5 h8)) h9)
set_option maxRecDepth 20000 in
theorem lc_transactionAt {G : XG} (hok : XK G) {B : XB} (C : XZ G B cL_law RL room_1 7) (hN : XNB B) {b L : Nat} {xs : Nat → Int32} (S : XSc G b L xs B) (hd10 : dm G 10 0) (hd11 : dm G 11 0) (hd17 : dm G 2017 0) {t : Nat} (ht : 10 * t + 10 ≤ L) (hL : L ≤ 5120) {RG : XO → Prop} (ok : OK_transactionAt RG) {Ω : XO} (hR : RG Ω) {cu su : Nat} (hcu : cu + 10 ≤ 601024) (hsu : su + 60 ≤ 7293034) (k : ∀ Ω', RG Ω' → XW G B 7 2361 [(4, .int (nI (10 * t))), (3, .ref (ad G 2017 0)), (2, .ref (ad G 11 0)), (1, .ref (ad G 10 0)), (0, .ref b)] [] Ω' (cu + 3) (su + 18)) : XW G B 7 930 [(4, .int (nI (10 * t))), (3, .ref (ad G 2017 0)), (2, .ref (ad G 11 0)), (1, .ref (ad G 10 0)), (0, .ref b)] [] Ω cu su := by
  obtain ⟨r0, r, q, g1, g2, g3, g4, g5, g6⟩ := ok Ω (xs (10 * t + 1)) (xs (10 * t + 2)) (xs (10 * t + 3)) hR
  refine z_aload_n (pc2 := 931) C dL_law_930 3 rfl rfl rfl ?_
  refine z_arg (k := 1) (j := 10 * t + 1) (p1 := 932) (p2 := 934) (p3 := 935) (p4 := 936) (p5 := 937) C S dL_law_931 dL_law_932 dL_law_934 dL_law_935 dL_law_936 4 0 rfl rfl (Or.inl ⟨rfl, rfl⟩) (by decide) rfl (by omega) hL rfl rfl rfl rfl rfl ?_
  refine z_arg (k := 2) (j := 10 * t + 2) (p1 := 938) (p2 := 940) (p3 := 941) (p4 := 942) (p5 := 943) C S dL_law_937 dL_law_938 dL_law_940 dL_law_941 dL_law_942 4 0 rfl rfl (Or.inl ⟨rfl, rfl⟩) (by decide) rfl (by omega) hL rfl rfl rfl rfl rfl ?_
  refine z_arg (k := 3) (j := 10 * t + 3) (p1 := 944) (p2 := 946) (p3 := 947) (p4 := 948) (p5 := 949) C S dL_law_943 dL_law_944 dL_law_946 dL_law_947 dL_law_948 4 0 rfl rfl (Or.inl ⟨rfl, rfl⟩) (by decide) rfl (by omega) hL rfl rfl rfl rfl rfl ?_
  refine z_aload_n (pc2 := 950) C dL_law_949 1 rfl rfl rfl ?_
  refine x_ret (rest := []) (st2 := [.int r.1]) (pc2 := 953) (cu2 := cu + 3) (su2 := su + 18) (z_cH C hN kmL_transactionAt rfl kk_L_148 (hL_transactionAt hok hd10 hd17 (by rw [g1]; exact g2)) rfl rfl (Nat.le_of_ble_eq_true rfl) ⟨(Nat.le_of_ble_eq_true rfl), (Nat.le_of_ble_eq_true rfl)⟩ ⟨by show cu + 3 ≤ 601024; omega, by show su + 18 ≤ 7293034; omega⟩ dL_law_950) rfl rfl rfl rfl ?_
  refine z_istore (pc2 := 955) (lv2 := [(5, .int r.1), (4, .int (nI (10 * t))), (3, .ref (ad G 2017 0)), (2, .ref (ad G 11 0)), (1, .ref (ad G 10 0)), (0, .ref b)]) C dL_law_953 (by decide) rfl rfl ?_
  refine z_aload_n (pc2 := 956) C dL_law_955 3 rfl rfl rfl ?_
  refine z_arg (k := 1) (j := 10 * t + 1) (p1 := 957) (p2 := 959) (p3 := 960) (p4 := 961) (p5 := 962) C S dL_law_956 dL_law_957 dL_law_959 dL_law_960 dL_law_961 5 1 rfl rfl (Or.inl ⟨rfl, rfl⟩) (by decide) rfl (by omega) hL rfl rfl rfl rfl rfl ?_
  refine z_arg (k := 2) (j := 10 * t + 2) (p1 := 963) (p2 := 965) (p3 := 966) (p4 := 967) (p5 := 968) C S dL_law_962 dL_law_963 dL_law_965 dL_law_966 dL_law_967 5 1 rfl rfl (Or.inl ⟨rfl, rfl⟩) (by decide) rfl (by omega) hL rfl rfl rfl rfl rfl ?_
  refine z_arg (k := 3) (j := 10 * t + 3) (p1 := 969) (p2 := 971) (p3 := 972) (p4 := 973) (p5 := 974) C S dL_law_968 dL_law_969 dL_law_971 dL_law_972 dL_law_973 5 1 rfl rfl (Or.inl ⟨rfl, rfl⟩) (by decide) rfl (by omega) hL rfl rfl rfl rfl rfl ?_
  refine x_ret (rest := []) (st2 := [.int q.1]) (pc2 := 977) (cu2 := cu + 3) (su2 := su + 18) (z_cV C hd11 (Nat.le_of_ble_eq_true rfl) kmX11_transactionAt rfl kk_L_150 (tX11_transactionAt hok hd11 g3) rfl rfl (Nat.le_of_ble_eq_true rfl) ⟨(Nat.le_of_ble_eq_true rfl), (Nat.le_of_ble_eq_true rfl)⟩ ⟨by show cu + 3 + 0 ≤ 601024; omega, by show su + 18 + 0 ≤ 7293034; omega⟩ dL_law_974) rfl rfl rfl rfl ?_
  refine z_istore (pc2 := 979) (lv2 := [(6, .int q.1), (5, .int r.1), (4, .int (nI (10 * t))), (3, .ref (ad G 2017 0)), (2, .ref (ad G 11 0)), (1, .ref (ad G 10 0)), (0, .ref b)]) C dL_law_977 (by decide) rfl rfl ?_
  refine z_aload_n (pc2 := 980) C dL_law_979 4 rfl rfl rfl ?_
  refine x_ret (rest := []) (st2 := [.int r.1]) (pc2 := 983) (cu2 := cu + 3) (su2 := su + 18) (z_cV C hd11 (Nat.le_of_ble_eq_true rfl) kmX11_thrown rfl kk_L_115 (tX11_thrown hok hd11 (r := r.1) (by rw [← g4]; rfl)) rfl rfl (Nat.le_of_ble_eq_true rfl) ⟨(Nat.le_of_ble_eq_true rfl), (Nat.le_of_ble_eq_true rfl)⟩ ⟨by show cu + 3 + 0 ≤ 601024; omega, by show su + 18 + 0 ≤ 7293034; omega⟩ dL_law_980) rfl rfl rfl rfl ?_
  refine z_iload (pc2 := 985) C dL_law_983 1 rfl rfl ?_
  refine z_icmp_eq (tgt := 990) (pc2 := 988) C dL_law_985 (by decide) rfl (fun _ => ?_) (fun h9 => absurd rfl h9)
  refine z_iload (pc2 := 992) C dL_law_990 1 rfl rfl ?_
  have fin : XW G B 7 1007 [(6, .int q.1), (5, .int r.1), (4, .int (nI (10 * t))), (3, .ref (ad G 2017 0)), (2, .ref (ad G 11 0)), (1, .ref (ad G 10 0)), (0, .ref b)] [] q.2 (cu + 3) (su + 18) := by
    refine z_goto (tgt := 2361) C dL_law_1007 (by decide) ?_
    exact z_sub (lv2 := [(4, .int (nI (10 * t))), (3, .ref (ad G 2017 0)), (2, .ref (ad G 11 0)), (1, .ref (ad G 10 0)), (0, .ref b)]) C [2, 3, 4, 5, 6] rfl (k q.2 g6)
  refine z_if_ne (tgt := 1007) (pc2 := 995) C dL_law_992 (by decide) rfl (fun _ => fin) (fun h8 => ?_)
  refine z_aload_n (pc2 := 996) C dL_law_995 3 rfl rfl rfl ?_
  refine z_iconst (pc2 := 997) (v := 0) C dL_law_996 rfl rfl ?_
  refine z_lald (pc2 := 998) C hd17 dL_law_997 rfl (nI_in (c := 0) (N := 1) (by decide) (by decide)) rfl ?_
  refine z_iload (pc2 := 1000) C dL_law_998 0 rfl rfl ?_
  refine z_i2l (pc2 := 1001) C dL_law_1000 rfl ?_
  refine z_lcmp (pc2 := 1002) C dL_law_1001 rfl ?_
  exact z_if_eq (tgt := 1007) (pc2 := 1005) C dL_law_1002 (by decide) rfl (fun _ => fin) (fun h9 => absurd (cmp0 (g5 h8)) h9)
set_option maxRecDepth 20000 in
theorem lc_eventAt {G : XG} (hok : XK G) {B : XB} (C : XZ G B cL_law RL room_1 7) (hN : XNB B) {b L : Nat} {xs : Nat → Int32} (S : XSc G b L xs B) (hd10 : dm G 10 0) (hd11 : dm G 11 0) (hd17 : dm G 2017 0) {t : Nat} (ht : 10 * t + 10 ≤ L) (hL : L ≤ 5120) {RG : XO → Prop} (ok : OK_eventAt RG) {Ω : XO} (hR : RG Ω) {cu su : Nat} (hcu : cu + 10 ≤ 601024) (hsu : su + 60 ≤ 7293034) (k : ∀ Ω', RG Ω' → XW G B 7 2361 [(4, .int (nI (10 * t))), (3, .ref (ad G 2017 0)), (2, .ref (ad G 11 0)), (1, .ref (ad G 10 0)), (0, .ref b)] [] Ω' (cu + 3) (su + 18)) : XW G B 7 1010 [(4, .int (nI (10 * t))), (3, .ref (ad G 2017 0)), (2, .ref (ad G 11 0)), (1, .ref (ad G 10 0)), (0, .ref b)] [] Ω cu su := by
  obtain ⟨r0, r, q, g1, g2, g3, g4, g5, g6⟩ := ok Ω (xs (10 * t + 1)) (xs (10 * t + 2)) (xs (10 * t + 3)) hR
  refine z_aload_n (pc2 := 1011) C dL_law_1010 3 rfl rfl rfl ?_
  refine z_arg (k := 1) (j := 10 * t + 1) (p1 := 1012) (p2 := 1014) (p3 := 1015) (p4 := 1016) (p5 := 1017) C S dL_law_1011 dL_law_1012 dL_law_1014 dL_law_1015 dL_law_1016 4 0 rfl rfl (Or.inl ⟨rfl, rfl⟩) (by decide) rfl (by omega) hL rfl rfl rfl rfl rfl ?_
  refine z_arg (k := 2) (j := 10 * t + 2) (p1 := 1018) (p2 := 1020) (p3 := 1021) (p4 := 1022) (p5 := 1023) C S dL_law_1017 dL_law_1018 dL_law_1020 dL_law_1021 dL_law_1022 4 0 rfl rfl (Or.inl ⟨rfl, rfl⟩) (by decide) rfl (by omega) hL rfl rfl rfl rfl rfl ?_
  refine z_arg (k := 3) (j := 10 * t + 3) (p1 := 1024) (p2 := 1026) (p3 := 1027) (p4 := 1028) (p5 := 1029) C S dL_law_1023 dL_law_1024 dL_law_1026 dL_law_1027 dL_law_1028 4 0 rfl rfl (Or.inl ⟨rfl, rfl⟩) (by decide) rfl (by omega) hL rfl rfl rfl rfl rfl ?_
  refine z_aload_n (pc2 := 1030) C dL_law_1029 1 rfl rfl rfl ?_
  refine x_ret (rest := []) (st2 := [.int r.1]) (pc2 := 1033) (cu2 := cu + 3) (su2 := su + 18) (z_cH C hN kmL_eventAt rfl kk_L_151 (hL_eventAt hok hd10 hd17 (by rw [g1]; exact g2)) rfl rfl (Nat.le_of_ble_eq_true rfl) ⟨(Nat.le_of_ble_eq_true rfl), (Nat.le_of_ble_eq_true rfl)⟩ ⟨by show cu + 3 ≤ 601024; omega, by show su + 18 ≤ 7293034; omega⟩ dL_law_1030) rfl rfl rfl rfl ?_
  refine z_istore (pc2 := 1035) (lv2 := [(5, .int r.1), (4, .int (nI (10 * t))), (3, .ref (ad G 2017 0)), (2, .ref (ad G 11 0)), (1, .ref (ad G 10 0)), (0, .ref b)]) C dL_law_1033 (by decide) rfl rfl ?_
  refine z_aload_n (pc2 := 1036) C dL_law_1035 3 rfl rfl rfl ?_
  refine z_arg (k := 1) (j := 10 * t + 1) (p1 := 1037) (p2 := 1039) (p3 := 1040) (p4 := 1041) (p5 := 1042) C S dL_law_1036 dL_law_1037 dL_law_1039 dL_law_1040 dL_law_1041 5 1 rfl rfl (Or.inl ⟨rfl, rfl⟩) (by decide) rfl (by omega) hL rfl rfl rfl rfl rfl ?_
  refine z_arg (k := 2) (j := 10 * t + 2) (p1 := 1043) (p2 := 1045) (p3 := 1046) (p4 := 1047) (p5 := 1048) C S dL_law_1042 dL_law_1043 dL_law_1045 dL_law_1046 dL_law_1047 5 1 rfl rfl (Or.inl ⟨rfl, rfl⟩) (by decide) rfl (by omega) hL rfl rfl rfl rfl rfl ?_
  refine z_arg (k := 3) (j := 10 * t + 3) (p1 := 1049) (p2 := 1051) (p3 := 1052) (p4 := 1053) (p5 := 1054) C S dL_law_1048 dL_law_1049 dL_law_1051 dL_law_1052 dL_law_1053 5 1 rfl rfl (Or.inl ⟨rfl, rfl⟩) (by decide) rfl (by omega) hL rfl rfl rfl rfl rfl ?_
  refine x_ret (rest := []) (st2 := [.int q.1]) (pc2 := 1057) (cu2 := cu + 3) (su2 := su + 18) (z_cV C hd11 (Nat.le_of_ble_eq_true rfl) kmX11_eventAt rfl kk_L_153 (tX11_eventAt hok hd11 g3) rfl rfl (Nat.le_of_ble_eq_true rfl) ⟨(Nat.le_of_ble_eq_true rfl), (Nat.le_of_ble_eq_true rfl)⟩ ⟨by show cu + 3 + 0 ≤ 601024; omega, by show su + 18 + 0 ≤ 7293034; omega⟩ dL_law_1054) rfl rfl rfl rfl ?_
  refine z_istore (pc2 := 1059) (lv2 := [(6, .int q.1), (5, .int r.1), (4, .int (nI (10 * t))), (3, .ref (ad G 2017 0)), (2, .ref (ad G 11 0)), (1, .ref (ad G 10 0)), (0, .ref b)]) C dL_law_1057 (by decide) rfl rfl ?_
  refine z_aload_n (pc2 := 1060) C dL_law_1059 4 rfl rfl rfl ?_
  refine x_ret (rest := []) (st2 := [.int r.1]) (pc2 := 1063) (cu2 := cu + 3) (su2 := su + 18) (z_cV C hd11 (Nat.le_of_ble_eq_true rfl) kmX11_thrown rfl kk_L_115 (tX11_thrown hok hd11 (r := r.1) (by rw [← g4]; rfl)) rfl rfl (Nat.le_of_ble_eq_true rfl) ⟨(Nat.le_of_ble_eq_true rfl), (Nat.le_of_ble_eq_true rfl)⟩ ⟨by show cu + 3 + 0 ≤ 601024; omega, by show su + 18 + 0 ≤ 7293034; omega⟩ dL_law_1060) rfl rfl rfl rfl ?_
  refine z_iload (pc2 := 1065) C dL_law_1063 1 rfl rfl ?_
  refine z_icmp_eq (tgt := 1070) (pc2 := 1068) C dL_law_1065 (by decide) rfl (fun _ => ?_) (fun h9 => absurd rfl h9)
  refine z_iload (pc2 := 1072) C dL_law_1070 1 rfl rfl ?_
  have fin : XW G B 7 1087 [(6, .int q.1), (5, .int r.1), (4, .int (nI (10 * t))), (3, .ref (ad G 2017 0)), (2, .ref (ad G 11 0)), (1, .ref (ad G 10 0)), (0, .ref b)] [] q.2 (cu + 3) (su + 18) := by
    refine z_goto (tgt := 2361) C dL_law_1087 (by decide) ?_
    exact z_sub (lv2 := [(4, .int (nI (10 * t))), (3, .ref (ad G 2017 0)), (2, .ref (ad G 11 0)), (1, .ref (ad G 10 0)), (0, .ref b)]) C [2, 3, 4, 5, 6] rfl (k q.2 g6)
  refine z_if_ne (tgt := 1087) (pc2 := 1075) C dL_law_1072 (by decide) rfl (fun _ => fin) (fun h8 => ?_)
  refine z_aload_n (pc2 := 1076) C dL_law_1075 3 rfl rfl rfl ?_
  refine z_iconst (pc2 := 1077) (v := 0) C dL_law_1076 rfl rfl ?_
  refine z_lald (pc2 := 1078) C hd17 dL_law_1077 rfl (nI_in (c := 0) (N := 1) (by decide) (by decide)) rfl ?_
  refine z_iload (pc2 := 1080) C dL_law_1078 0 rfl rfl ?_
  refine z_i2l (pc2 := 1081) C dL_law_1080 rfl ?_
  refine z_lcmp (pc2 := 1082) C dL_law_1081 rfl ?_
  exact z_if_eq (tgt := 1087) (pc2 := 1085) C dL_law_1082 (by decide) rfl (fun _ => fin) (fun h9 => absurd (cmp0 (g5 h8)) h9)
set_option maxRecDepth 20000 in
theorem lc_bloom {G : XG} (hok : XK G) {B : XB} (C : XZ G B cL_law RL room_1 7) (hN : XNB B) {b L : Nat} {xs : Nat → Int32} (S : XSc G b L xs B) (hd10 : dm G 10 0) (hd11 : dm G 11 0) (hd17 : dm G 2017 0) {t : Nat} (ht : 10 * t + 10 ≤ L) (hL : L ≤ 5120) {RG : XO → Prop} (ok : OK_bloom RG) {Ω : XO} (hR : RG Ω) {cu su : Nat} (hcu : cu + 10 ≤ 601024) (hsu : su + 60 ≤ 7293034) (k : ∀ Ω', RG Ω' → XW G B 7 2361 [(4, .int (nI (10 * t))), (3, .ref (ad G 2017 0)), (2, .ref (ad G 11 0)), (1, .ref (ad G 10 0)), (0, .ref b)] [] Ω' (cu + 2) (su + 12)) : XW G B 7 1090 [(4, .int (nI (10 * t))), (3, .ref (ad G 2017 0)), (2, .ref (ad G 11 0)), (1, .ref (ad G 10 0)), (0, .ref b)] [] Ω cu su := by
  obtain ⟨r0, r, q, g1, g2, g3, g4, g5, g6⟩ := ok Ω (xs (10 * t + 1)) (xs (10 * t + 2)) hR
  refine z_aload_n (pc2 := 1091) C dL_law_1090 3 rfl rfl rfl ?_
  refine z_arg (k := 1) (j := 10 * t + 1) (p1 := 1092) (p2 := 1094) (p3 := 1095) (p4 := 1096) (p5 := 1097) C S dL_law_1091 dL_law_1092 dL_law_1094 dL_law_1095 dL_law_1096 4 0 rfl rfl (Or.inl ⟨rfl, rfl⟩) (by decide) rfl (by omega) hL rfl rfl rfl rfl rfl ?_
  refine z_arg (k := 2) (j := 10 * t + 2) (p1 := 1098) (p2 := 1100) (p3 := 1101) (p4 := 1102) (p5 := 1103) C S dL_law_1097 dL_law_1098 dL_law_1100 dL_law_1101 dL_law_1102 4 0 rfl rfl (Or.inl ⟨rfl, rfl⟩) (by decide) rfl (by omega) hL rfl rfl rfl rfl rfl ?_
  refine z_aload_n (pc2 := 1104) C dL_law_1103 1 rfl rfl rfl ?_
  refine x_ret (rest := []) (st2 := [.int r.1]) (pc2 := 1107) (cu2 := cu + 2) (su2 := su + 12) (z_cH C hN kmL_bloom rfl kk_L_154 (hL_bloom hok hd10 hd17 (by rw [g1]; exact g2)) rfl rfl (Nat.le_of_ble_eq_true rfl) ⟨(Nat.le_of_ble_eq_true rfl), (Nat.le_of_ble_eq_true rfl)⟩ ⟨by show cu + 2 ≤ 601024; omega, by show su + 12 ≤ 7293034; omega⟩ dL_law_1104) rfl rfl rfl rfl ?_
  refine z_istore (pc2 := 1109) (lv2 := [(5, .int r.1), (4, .int (nI (10 * t))), (3, .ref (ad G 2017 0)), (2, .ref (ad G 11 0)), (1, .ref (ad G 10 0)), (0, .ref b)]) C dL_law_1107 (by decide) rfl rfl ?_
  refine z_aload_n (pc2 := 1110) C dL_law_1109 3 rfl rfl rfl ?_
  refine z_arg (k := 1) (j := 10 * t + 1) (p1 := 1111) (p2 := 1113) (p3 := 1114) (p4 := 1115) (p5 := 1116) C S dL_law_1110 dL_law_1111 dL_law_1113 dL_law_1114 dL_law_1115 5 1 rfl rfl (Or.inl ⟨rfl, rfl⟩) (by decide) rfl (by omega) hL rfl rfl rfl rfl rfl ?_
  refine z_arg (k := 2) (j := 10 * t + 2) (p1 := 1117) (p2 := 1119) (p3 := 1120) (p4 := 1121) (p5 := 1122) C S dL_law_1116 dL_law_1117 dL_law_1119 dL_law_1120 dL_law_1121 5 1 rfl rfl (Or.inl ⟨rfl, rfl⟩) (by decide) rfl (by omega) hL rfl rfl rfl rfl rfl ?_
  refine x_ret (rest := []) (st2 := [.int q.1]) (pc2 := 1125) (cu2 := cu + 2) (su2 := su + 12) (z_cV C hd11 (Nat.le_of_ble_eq_true rfl) kmX11_bloom rfl kk_L_156 (tX11_bloom hok hd11 g3) rfl rfl (Nat.le_of_ble_eq_true rfl) ⟨(Nat.le_of_ble_eq_true rfl), (Nat.le_of_ble_eq_true rfl)⟩ ⟨by show cu + 2 + 0 ≤ 601024; omega, by show su + 12 + 0 ≤ 7293034; omega⟩ dL_law_1122) rfl rfl rfl rfl ?_
  refine z_istore (pc2 := 1127) (lv2 := [(6, .int q.1), (5, .int r.1), (4, .int (nI (10 * t))), (3, .ref (ad G 2017 0)), (2, .ref (ad G 11 0)), (1, .ref (ad G 10 0)), (0, .ref b)]) C dL_law_1125 (by decide) rfl rfl ?_
  refine z_aload_n (pc2 := 1128) C dL_law_1127 4 rfl rfl rfl ?_
  refine x_ret (rest := []) (st2 := [.int r.1]) (pc2 := 1131) (cu2 := cu + 2) (su2 := su + 12) (z_cV C hd11 (Nat.le_of_ble_eq_true rfl) kmX11_thrown rfl kk_L_115 (tX11_thrown hok hd11 (r := r.1) (by rw [← g4]; rfl)) rfl rfl (Nat.le_of_ble_eq_true rfl) ⟨(Nat.le_of_ble_eq_true rfl), (Nat.le_of_ble_eq_true rfl)⟩ ⟨by show cu + 2 + 0 ≤ 601024; omega, by show su + 12 + 0 ≤ 7293034; omega⟩ dL_law_1128) rfl rfl rfl rfl ?_
  refine z_iload (pc2 := 1133) C dL_law_1131 1 rfl rfl ?_
  refine z_icmp_eq (tgt := 1138) (pc2 := 1136) C dL_law_1133 (by decide) rfl (fun _ => ?_) (fun h9 => absurd rfl h9)
  refine z_iload (pc2 := 1140) C dL_law_1138 1 rfl rfl ?_
  have fin : XW G B 7 1155 [(6, .int q.1), (5, .int r.1), (4, .int (nI (10 * t))), (3, .ref (ad G 2017 0)), (2, .ref (ad G 11 0)), (1, .ref (ad G 10 0)), (0, .ref b)] [] q.2 (cu + 2) (su + 12) := by
    refine z_goto (tgt := 2361) C dL_law_1155 (by decide) ?_
    exact z_sub (lv2 := [(4, .int (nI (10 * t))), (3, .ref (ad G 2017 0)), (2, .ref (ad G 11 0)), (1, .ref (ad G 10 0)), (0, .ref b)]) C [2, 3, 4, 5, 6] rfl (k q.2 g6)
  refine z_if_ne (tgt := 1155) (pc2 := 1143) C dL_law_1140 (by decide) rfl (fun _ => fin) (fun h8 => ?_)
  refine z_aload_n (pc2 := 1144) C dL_law_1143 3 rfl rfl rfl ?_
  refine z_iconst (pc2 := 1145) (v := 0) C dL_law_1144 rfl rfl ?_
  refine z_lald (pc2 := 1146) C hd17 dL_law_1145 rfl (nI_in (c := 0) (N := 1) (by decide) (by decide)) rfl ?_
  refine z_iload (pc2 := 1148) C dL_law_1146 0 rfl rfl ?_
  refine z_i2l (pc2 := 1149) C dL_law_1148 rfl ?_
  refine z_lcmp (pc2 := 1150) C dL_law_1149 rfl ?_
  exact z_if_eq (tgt := 1155) (pc2 := 1153) C dL_law_1150 (by decide) rfl (fun _ => fin) (fun h9 => absurd (cmp0 (g5 h8)) h9)
set_option maxRecDepth 20000 in
theorem lc_find {G : XG} (hok : XK G) {B : XB} (C : XZ G B cL_law RL room_1 7) (hN : XNB B) {b L : Nat} {xs : Nat → Int32} (S : XSc G b L xs B) (hd10 : dm G 10 0) (hd11 : dm G 11 0) (hd17 : dm G 2017 0) {t : Nat} (ht : 10 * t + 10 ≤ L) (hL : L ≤ 5120) {RG : XO → Prop} (ok : OK_find RG) {Ω : XO} (hR : RG Ω) {cu su : Nat} (hcu : cu + 10 ≤ 601024) (hsu : su + 60 ≤ 7293034) (k : ∀ Ω', RG Ω' → XW G B 7 2361 [(4, .int (nI (10 * t))), (3, .ref (ad G 2017 0)), (2, .ref (ad G 11 0)), (1, .ref (ad G 10 0)), (0, .ref b)] [] Ω' (cu + 2) (su + 12)) : XW G B 7 1158 [(4, .int (nI (10 * t))), (3, .ref (ad G 2017 0)), (2, .ref (ad G 11 0)), (1, .ref (ad G 10 0)), (0, .ref b)] [] Ω cu su := by
  obtain ⟨r0, r, q, g1, g2, g3, g4, g5, g6⟩ := ok Ω (xs (10 * t + 1)) (xs (10 * t + 2)) hR
  refine z_aload_n (pc2 := 1159) C dL_law_1158 3 rfl rfl rfl ?_
  refine z_arg (k := 1) (j := 10 * t + 1) (p1 := 1160) (p2 := 1162) (p3 := 1163) (p4 := 1164) (p5 := 1165) C S dL_law_1159 dL_law_1160 dL_law_1162 dL_law_1163 dL_law_1164 4 0 rfl rfl (Or.inl ⟨rfl, rfl⟩) (by decide) rfl (by omega) hL rfl rfl rfl rfl rfl ?_
  refine z_arg (k := 2) (j := 10 * t + 2) (p1 := 1166) (p2 := 1168) (p3 := 1169) (p4 := 1170) (p5 := 1171) C S dL_law_1165 dL_law_1166 dL_law_1168 dL_law_1169 dL_law_1170 4 0 rfl rfl (Or.inl ⟨rfl, rfl⟩) (by decide) rfl (by omega) hL rfl rfl rfl rfl rfl ?_
  refine z_aload_n (pc2 := 1172) C dL_law_1171 1 rfl rfl rfl ?_
  refine x_ret (rest := []) (st2 := [.int r.1]) (pc2 := 1175) (cu2 := cu + 2) (su2 := su + 12) (z_cH C hN kmL_find rfl kk_L_157 (hL_find hok hd10 hd17 (by rw [g1]; exact g2)) rfl rfl (Nat.le_of_ble_eq_true rfl) ⟨(Nat.le_of_ble_eq_true rfl), (Nat.le_of_ble_eq_true rfl)⟩ ⟨by show cu + 2 ≤ 601024; omega, by show su + 12 ≤ 7293034; omega⟩ dL_law_1172) rfl rfl rfl rfl ?_
  refine z_istore (pc2 := 1177) (lv2 := [(5, .int r.1), (4, .int (nI (10 * t))), (3, .ref (ad G 2017 0)), (2, .ref (ad G 11 0)), (1, .ref (ad G 10 0)), (0, .ref b)]) C dL_law_1175 (by decide) rfl rfl ?_
  refine z_aload_n (pc2 := 1178) C dL_law_1177 3 rfl rfl rfl ?_
  refine z_arg (k := 1) (j := 10 * t + 1) (p1 := 1179) (p2 := 1181) (p3 := 1182) (p4 := 1183) (p5 := 1184) C S dL_law_1178 dL_law_1179 dL_law_1181 dL_law_1182 dL_law_1183 5 1 rfl rfl (Or.inl ⟨rfl, rfl⟩) (by decide) rfl (by omega) hL rfl rfl rfl rfl rfl ?_
  refine z_arg (k := 2) (j := 10 * t + 2) (p1 := 1185) (p2 := 1187) (p3 := 1188) (p4 := 1189) (p5 := 1190) C S dL_law_1184 dL_law_1185 dL_law_1187 dL_law_1188 dL_law_1189 5 1 rfl rfl (Or.inl ⟨rfl, rfl⟩) (by decide) rfl (by omega) hL rfl rfl rfl rfl rfl ?_
  refine x_ret (rest := []) (st2 := [.int q.1]) (pc2 := 1193) (cu2 := cu + 2) (su2 := su + 12) (z_cV C hd11 (Nat.le_of_ble_eq_true rfl) kmX11_find rfl kk_L_159 (tX11_find hok hd11 g3) rfl rfl (Nat.le_of_ble_eq_true rfl) ⟨(Nat.le_of_ble_eq_true rfl), (Nat.le_of_ble_eq_true rfl)⟩ ⟨by show cu + 2 + 0 ≤ 601024; omega, by show su + 12 + 0 ≤ 7293034; omega⟩ dL_law_1190) rfl rfl rfl rfl ?_
  refine z_istore (pc2 := 1195) (lv2 := [(6, .int q.1), (5, .int r.1), (4, .int (nI (10 * t))), (3, .ref (ad G 2017 0)), (2, .ref (ad G 11 0)), (1, .ref (ad G 10 0)), (0, .ref b)]) C dL_law_1193 (by decide) rfl rfl ?_
  refine z_aload_n (pc2 := 1196) C dL_law_1195 4 rfl rfl rfl ?_
  refine x_ret (rest := []) (st2 := [.int r.1]) (pc2 := 1199) (cu2 := cu + 2) (su2 := su + 12) (z_cV C hd11 (Nat.le_of_ble_eq_true rfl) kmX11_thrown rfl kk_L_115 (tX11_thrown hok hd11 (r := r.1) (by rw [← g4]; rfl)) rfl rfl (Nat.le_of_ble_eq_true rfl) ⟨(Nat.le_of_ble_eq_true rfl), (Nat.le_of_ble_eq_true rfl)⟩ ⟨by show cu + 2 + 0 ≤ 601024; omega, by show su + 12 + 0 ≤ 7293034; omega⟩ dL_law_1196) rfl rfl rfl rfl ?_
  refine z_iload (pc2 := 1201) C dL_law_1199 1 rfl rfl ?_
  refine z_icmp_eq (tgt := 1206) (pc2 := 1204) C dL_law_1201 (by decide) rfl (fun _ => ?_) (fun h9 => absurd rfl h9)
  refine z_iload (pc2 := 1208) C dL_law_1206 1 rfl rfl ?_
  have fin : XW G B 7 1223 [(6, .int q.1), (5, .int r.1), (4, .int (nI (10 * t))), (3, .ref (ad G 2017 0)), (2, .ref (ad G 11 0)), (1, .ref (ad G 10 0)), (0, .ref b)] [] q.2 (cu + 2) (su + 12) := by
    refine z_goto (tgt := 2361) C dL_law_1223 (by decide) ?_
    exact z_sub (lv2 := [(4, .int (nI (10 * t))), (3, .ref (ad G 2017 0)), (2, .ref (ad G 11 0)), (1, .ref (ad G 10 0)), (0, .ref b)]) C [2, 3, 4, 5, 6] rfl (k q.2 g6)
  refine z_if_ne (tgt := 1223) (pc2 := 1211) C dL_law_1208 (by decide) rfl (fun _ => fin) (fun h8 => ?_)
  refine z_aload_n (pc2 := 1212) C dL_law_1211 3 rfl rfl rfl ?_
  refine z_iconst (pc2 := 1213) (v := 0) C dL_law_1212 rfl rfl ?_
  refine z_lald (pc2 := 1214) C hd17 dL_law_1213 rfl (nI_in (c := 0) (N := 1) (by decide) (by decide)) rfl ?_
  refine z_iload (pc2 := 1216) C dL_law_1214 0 rfl rfl ?_
  refine z_i2l (pc2 := 1217) C dL_law_1216 rfl ?_
  refine z_lcmp (pc2 := 1218) C dL_law_1217 rfl ?_
  exact z_if_eq (tgt := 1223) (pc2 := 1221) C dL_law_1218 (by decide) rfl (fun _ => fin) (fun h9 => absurd (cmp0 (g5 h8)) h9)
set_option maxRecDepth 20000 in
theorem lc_coins {G : XG} (hok : XK G) {B : XB} (C : XZ G B cL_law RL room_1 7) (hN : XNB B) {b L : Nat} {xs : Nat → Int32} (S : XSc G b L xs B) (hd10 : dm G 10 0) (hd11 : dm G 11 0) (hd17 : dm G 2017 0) {t : Nat} (ht : 10 * t + 10 ≤ L) (hL : L ≤ 5120) {RG : XO → Prop} (ok : OK_coins RG) {Ω : XO} (hR : RG Ω) {cu su : Nat} (hcu : cu + 10 ≤ 601024) (hsu : su + 60 ≤ 7293034) (k : ∀ Ω', RG Ω' → XW G B 7 2361 [(4, .int (nI (10 * t))), (3, .ref (ad G 2017 0)), (2, .ref (ad G 11 0)), (1, .ref (ad G 10 0)), (0, .ref b)] [] Ω' (cu + 4) (su + 24)) : XW G B 7 1226 [(4, .int (nI (10 * t))), (3, .ref (ad G 2017 0)), (2, .ref (ad G 11 0)), (1, .ref (ad G 10 0)), (0, .ref b)] [] Ω cu su := by
  obtain ⟨r0, r, q, g1, g2, g3, g4, g5, g6⟩ := ok Ω (xs (10 * t + 1)) (xs (10 * t + 2)) (xs (10 * t + 3)) hR
  refine z_aload_n (pc2 := 1227) C dL_law_1226 3 rfl rfl rfl ?_
  refine z_arg (k := 1) (j := 10 * t + 1) (p1 := 1228) (p2 := 1230) (p3 := 1231) (p4 := 1232) (p5 := 1233) C S dL_law_1227 dL_law_1228 dL_law_1230 dL_law_1231 dL_law_1232 4 0 rfl rfl (Or.inl ⟨rfl, rfl⟩) (by decide) rfl (by omega) hL rfl rfl rfl rfl rfl ?_
  refine z_arg (k := 2) (j := 10 * t + 2) (p1 := 1234) (p2 := 1236) (p3 := 1237) (p4 := 1238) (p5 := 1239) C S dL_law_1233 dL_law_1234 dL_law_1236 dL_law_1237 dL_law_1238 4 0 rfl rfl (Or.inl ⟨rfl, rfl⟩) (by decide) rfl (by omega) hL rfl rfl rfl rfl rfl ?_
  refine z_arg (k := 3) (j := 10 * t + 3) (p1 := 1240) (p2 := 1242) (p3 := 1243) (p4 := 1244) (p5 := 1245) C S dL_law_1239 dL_law_1240 dL_law_1242 dL_law_1243 dL_law_1244 4 0 rfl rfl (Or.inl ⟨rfl, rfl⟩) (by decide) rfl (by omega) hL rfl rfl rfl rfl rfl ?_
  refine z_aload_n (pc2 := 1246) C dL_law_1245 1 rfl rfl rfl ?_
  refine x_ret (rest := []) (st2 := [.int r.1]) (pc2 := 1249) (cu2 := cu + 4) (su2 := su + 24) (z_cH C hN kmL_coins rfl kk_L_160 (hL_coins hok hd10 hd17 (by rw [g1]; exact g2)) rfl rfl (Nat.le_of_ble_eq_true rfl) ⟨(Nat.le_of_ble_eq_true rfl), (Nat.le_of_ble_eq_true rfl)⟩ ⟨by show cu + 4 ≤ 601024; omega, by show su + 24 ≤ 7293034; omega⟩ dL_law_1246) rfl rfl rfl rfl ?_
  refine z_istore (pc2 := 1251) (lv2 := [(5, .int r.1), (4, .int (nI (10 * t))), (3, .ref (ad G 2017 0)), (2, .ref (ad G 11 0)), (1, .ref (ad G 10 0)), (0, .ref b)]) C dL_law_1249 (by decide) rfl rfl ?_
  refine z_aload_n (pc2 := 1252) C dL_law_1251 3 rfl rfl rfl ?_
  refine z_arg (k := 1) (j := 10 * t + 1) (p1 := 1253) (p2 := 1255) (p3 := 1256) (p4 := 1257) (p5 := 1258) C S dL_law_1252 dL_law_1253 dL_law_1255 dL_law_1256 dL_law_1257 5 1 rfl rfl (Or.inl ⟨rfl, rfl⟩) (by decide) rfl (by omega) hL rfl rfl rfl rfl rfl ?_
  refine z_arg (k := 2) (j := 10 * t + 2) (p1 := 1259) (p2 := 1261) (p3 := 1262) (p4 := 1263) (p5 := 1264) C S dL_law_1258 dL_law_1259 dL_law_1261 dL_law_1262 dL_law_1263 5 1 rfl rfl (Or.inl ⟨rfl, rfl⟩) (by decide) rfl (by omega) hL rfl rfl rfl rfl rfl ?_
  refine z_arg (k := 3) (j := 10 * t + 3) (p1 := 1265) (p2 := 1267) (p3 := 1268) (p4 := 1269) (p5 := 1270) C S dL_law_1264 dL_law_1265 dL_law_1267 dL_law_1268 dL_law_1269 5 1 rfl rfl (Or.inl ⟨rfl, rfl⟩) (by decide) rfl (by omega) hL rfl rfl rfl rfl rfl ?_
  refine x_ret (rest := []) (st2 := [.int q.1]) (pc2 := 1273) (cu2 := cu + 4) (su2 := su + 24) (z_cV C hd11 (Nat.le_of_ble_eq_true rfl) kmX11_coins rfl kk_L_162 (tX11_coins hok hd11 g3) rfl rfl (Nat.le_of_ble_eq_true rfl) ⟨(Nat.le_of_ble_eq_true rfl), (Nat.le_of_ble_eq_true rfl)⟩ ⟨by show cu + 4 + 0 ≤ 601024; omega, by show su + 24 + 0 ≤ 7293034; omega⟩ dL_law_1270) rfl rfl rfl rfl ?_
  refine z_istore (pc2 := 1275) (lv2 := [(6, .int q.1), (5, .int r.1), (4, .int (nI (10 * t))), (3, .ref (ad G 2017 0)), (2, .ref (ad G 11 0)), (1, .ref (ad G 10 0)), (0, .ref b)]) C dL_law_1273 (by decide) rfl rfl ?_
  refine z_aload_n (pc2 := 1276) C dL_law_1275 4 rfl rfl rfl ?_
  refine x_ret (rest := []) (st2 := [.int r.1]) (pc2 := 1279) (cu2 := cu + 4) (su2 := su + 24) (z_cV C hd11 (Nat.le_of_ble_eq_true rfl) kmX11_thrown rfl kk_L_115 (tX11_thrown hok hd11 (r := r.1) (by rw [← g4]; rfl)) rfl rfl (Nat.le_of_ble_eq_true rfl) ⟨(Nat.le_of_ble_eq_true rfl), (Nat.le_of_ble_eq_true rfl)⟩ ⟨by show cu + 4 + 0 ≤ 601024; omega, by show su + 24 + 0 ≤ 7293034; omega⟩ dL_law_1276) rfl rfl rfl rfl ?_
  refine z_iload (pc2 := 1281) C dL_law_1279 1 rfl rfl ?_
  refine z_icmp_eq (tgt := 1286) (pc2 := 1284) C dL_law_1281 (by decide) rfl (fun _ => ?_) (fun h9 => absurd rfl h9)
  refine z_iload (pc2 := 1288) C dL_law_1286 1 rfl rfl ?_
  have fin : XW G B 7 1303 [(6, .int q.1), (5, .int r.1), (4, .int (nI (10 * t))), (3, .ref (ad G 2017 0)), (2, .ref (ad G 11 0)), (1, .ref (ad G 10 0)), (0, .ref b)] [] q.2 (cu + 4) (su + 24) := by
    refine z_goto (tgt := 2361) C dL_law_1303 (by decide) ?_
    exact z_sub (lv2 := [(4, .int (nI (10 * t))), (3, .ref (ad G 2017 0)), (2, .ref (ad G 11 0)), (1, .ref (ad G 10 0)), (0, .ref b)]) C [2, 3, 4, 5, 6] rfl (k q.2 g6)
  refine z_if_ne (tgt := 1303) (pc2 := 1291) C dL_law_1288 (by decide) rfl (fun _ => fin) (fun h8 => ?_)
  refine z_aload_n (pc2 := 1292) C dL_law_1291 3 rfl rfl rfl ?_
  refine z_iconst (pc2 := 1293) (v := 0) C dL_law_1292 rfl rfl ?_
  refine z_lald (pc2 := 1294) C hd17 dL_law_1293 rfl (nI_in (c := 0) (N := 1) (by decide) (by decide)) rfl ?_
  refine z_iload (pc2 := 1296) C dL_law_1294 0 rfl rfl ?_
  refine z_i2l (pc2 := 1297) C dL_law_1296 rfl ?_
  refine z_lcmp (pc2 := 1298) C dL_law_1297 rfl ?_
  exact z_if_eq (tgt := 1303) (pc2 := 1301) C dL_law_1298 (by decide) rfl (fun _ => fin) (fun h9 => absurd (cmp0 (g5 h8)) h9)
set_option maxRecDepth 20000 in
theorem lc_codeOf {G : XG} (hok : XK G) {B : XB} (C : XZ G B cL_law RL room_1 7) (hN : XNB B) {b L : Nat} {xs : Nat → Int32} (S : XSc G b L xs B) (hd10 : dm G 10 0) (hd11 : dm G 11 0) (hd17 : dm G 2017 0) {t : Nat} (ht : 10 * t + 10 ≤ L) (hL : L ≤ 5120) {RG : XO → Prop} (ok : OK_codeOf RG) {Ω : XO} (hR : RG Ω) {cu su : Nat} (hcu : cu + 10 ≤ 601024) (hsu : su + 60 ≤ 7293034) (k : ∀ Ω', RG Ω' → XW G B 7 2361 [(4, .int (nI (10 * t))), (3, .ref (ad G 2017 0)), (2, .ref (ad G 11 0)), (1, .ref (ad G 10 0)), (0, .ref b)] [] Ω' (cu + 4) (su + 24)) : XW G B 7 1306 [(4, .int (nI (10 * t))), (3, .ref (ad G 2017 0)), (2, .ref (ad G 11 0)), (1, .ref (ad G 10 0)), (0, .ref b)] [] Ω cu su := by
  obtain ⟨r0, r, q, g1, g2, g3, g4, g5, g6⟩ := ok Ω (xs (10 * t + 1)) (xs (10 * t + 2)) (xs (10 * t + 3)) hR
  refine z_aload_n (pc2 := 1307) C dL_law_1306 3 rfl rfl rfl ?_
  refine z_arg (k := 1) (j := 10 * t + 1) (p1 := 1308) (p2 := 1310) (p3 := 1311) (p4 := 1312) (p5 := 1313) C S dL_law_1307 dL_law_1308 dL_law_1310 dL_law_1311 dL_law_1312 4 0 rfl rfl (Or.inl ⟨rfl, rfl⟩) (by decide) rfl (by omega) hL rfl rfl rfl rfl rfl ?_
  refine z_arg (k := 2) (j := 10 * t + 2) (p1 := 1314) (p2 := 1316) (p3 := 1317) (p4 := 1318) (p5 := 1319) C S dL_law_1313 dL_law_1314 dL_law_1316 dL_law_1317 dL_law_1318 4 0 rfl rfl (Or.inl ⟨rfl, rfl⟩) (by decide) rfl (by omega) hL rfl rfl rfl rfl rfl ?_
  refine z_arg (k := 3) (j := 10 * t + 3) (p1 := 1320) (p2 := 1322) (p3 := 1323) (p4 := 1324) (p5 := 1325) C S dL_law_1319 dL_law_1320 dL_law_1322 dL_law_1323 dL_law_1324 4 0 rfl rfl (Or.inl ⟨rfl, rfl⟩) (by decide) rfl (by omega) hL rfl rfl rfl rfl rfl ?_
  refine z_aload_n (pc2 := 1326) C dL_law_1325 1 rfl rfl rfl ?_
  refine x_ret (rest := []) (st2 := [.int r.1]) (pc2 := 1329) (cu2 := cu + 4) (su2 := su + 24) (z_cH C hN kmL_codeOf rfl kk_L_163 (hL_codeOf hok hd10 hd17 (by rw [g1]; exact g2)) rfl rfl (Nat.le_of_ble_eq_true rfl) ⟨(Nat.le_of_ble_eq_true rfl), (Nat.le_of_ble_eq_true rfl)⟩ ⟨by show cu + 4 ≤ 601024; omega, by show su + 24 ≤ 7293034; omega⟩ dL_law_1326) rfl rfl rfl rfl ?_
  refine z_istore (pc2 := 1331) (lv2 := [(5, .int r.1), (4, .int (nI (10 * t))), (3, .ref (ad G 2017 0)), (2, .ref (ad G 11 0)), (1, .ref (ad G 10 0)), (0, .ref b)]) C dL_law_1329 (by decide) rfl rfl ?_
  refine z_aload_n (pc2 := 1332) C dL_law_1331 3 rfl rfl rfl ?_
  refine z_arg (k := 1) (j := 10 * t + 1) (p1 := 1333) (p2 := 1335) (p3 := 1336) (p4 := 1337) (p5 := 1338) C S dL_law_1332 dL_law_1333 dL_law_1335 dL_law_1336 dL_law_1337 5 1 rfl rfl (Or.inl ⟨rfl, rfl⟩) (by decide) rfl (by omega) hL rfl rfl rfl rfl rfl ?_
  refine z_arg (k := 2) (j := 10 * t + 2) (p1 := 1339) (p2 := 1341) (p3 := 1342) (p4 := 1343) (p5 := 1344) C S dL_law_1338 dL_law_1339 dL_law_1341 dL_law_1342 dL_law_1343 5 1 rfl rfl (Or.inl ⟨rfl, rfl⟩) (by decide) rfl (by omega) hL rfl rfl rfl rfl rfl ?_
  refine z_arg (k := 3) (j := 10 * t + 3) (p1 := 1345) (p2 := 1347) (p3 := 1348) (p4 := 1349) (p5 := 1350) C S dL_law_1344 dL_law_1345 dL_law_1347 dL_law_1348 dL_law_1349 5 1 rfl rfl (Or.inl ⟨rfl, rfl⟩) (by decide) rfl (by omega) hL rfl rfl rfl rfl rfl ?_
  refine x_ret (rest := []) (st2 := [.int q.1]) (pc2 := 1353) (cu2 := cu + 4) (su2 := su + 24) (z_cV C hd11 (Nat.le_of_ble_eq_true rfl) kmX11_codeOf rfl kk_L_165 (tX11_codeOf hok hd11 g3) rfl rfl (Nat.le_of_ble_eq_true rfl) ⟨(Nat.le_of_ble_eq_true rfl), (Nat.le_of_ble_eq_true rfl)⟩ ⟨by show cu + 4 + 0 ≤ 601024; omega, by show su + 24 + 0 ≤ 7293034; omega⟩ dL_law_1350) rfl rfl rfl rfl ?_
  refine z_istore (pc2 := 1355) (lv2 := [(6, .int q.1), (5, .int r.1), (4, .int (nI (10 * t))), (3, .ref (ad G 2017 0)), (2, .ref (ad G 11 0)), (1, .ref (ad G 10 0)), (0, .ref b)]) C dL_law_1353 (by decide) rfl rfl ?_
  refine z_aload_n (pc2 := 1356) C dL_law_1355 4 rfl rfl rfl ?_
  refine x_ret (rest := []) (st2 := [.int r.1]) (pc2 := 1359) (cu2 := cu + 4) (su2 := su + 24) (z_cV C hd11 (Nat.le_of_ble_eq_true rfl) kmX11_thrown rfl kk_L_115 (tX11_thrown hok hd11 (r := r.1) (by rw [← g4]; rfl)) rfl rfl (Nat.le_of_ble_eq_true rfl) ⟨(Nat.le_of_ble_eq_true rfl), (Nat.le_of_ble_eq_true rfl)⟩ ⟨by show cu + 4 + 0 ≤ 601024; omega, by show su + 24 + 0 ≤ 7293034; omega⟩ dL_law_1356) rfl rfl rfl rfl ?_
  refine z_iload (pc2 := 1361) C dL_law_1359 1 rfl rfl ?_
  refine z_icmp_eq (tgt := 1366) (pc2 := 1364) C dL_law_1361 (by decide) rfl (fun _ => ?_) (fun h9 => absurd rfl h9)
  refine z_iload (pc2 := 1368) C dL_law_1366 1 rfl rfl ?_
  have fin : XW G B 7 1383 [(6, .int q.1), (5, .int r.1), (4, .int (nI (10 * t))), (3, .ref (ad G 2017 0)), (2, .ref (ad G 11 0)), (1, .ref (ad G 10 0)), (0, .ref b)] [] q.2 (cu + 4) (su + 24) := by
    refine z_goto (tgt := 2361) C dL_law_1383 (by decide) ?_
    exact z_sub (lv2 := [(4, .int (nI (10 * t))), (3, .ref (ad G 2017 0)), (2, .ref (ad G 11 0)), (1, .ref (ad G 10 0)), (0, .ref b)]) C [2, 3, 4, 5, 6] rfl (k q.2 g6)
  refine z_if_ne (tgt := 1383) (pc2 := 1371) C dL_law_1368 (by decide) rfl (fun _ => fin) (fun h8 => ?_)
  refine z_aload_n (pc2 := 1372) C dL_law_1371 3 rfl rfl rfl ?_
  refine z_iconst (pc2 := 1373) (v := 0) C dL_law_1372 rfl rfl ?_
  refine z_lald (pc2 := 1374) C hd17 dL_law_1373 rfl (nI_in (c := 0) (N := 1) (by decide) (by decide)) rfl ?_
  refine z_iload (pc2 := 1376) C dL_law_1374 0 rfl rfl ?_
  refine z_i2l (pc2 := 1377) C dL_law_1376 rfl ?_
  refine z_lcmp (pc2 := 1378) C dL_law_1377 rfl ?_
  exact z_if_eq (tgt := 1383) (pc2 := 1381) C dL_law_1378 (by decide) rfl (fun _ => fin) (fun h9 => absurd (cmp0 (g5 h8)) h9)
set_option maxRecDepth 20000 in
theorem lc_slot {G : XG} (hok : XK G) {B : XB} (C : XZ G B cL_law RL room_1 7) (hN : XNB B) {b L : Nat} {xs : Nat → Int32} (S : XSc G b L xs B) (hd10 : dm G 10 0) (hd11 : dm G 11 0) (hd17 : dm G 2017 0) {t : Nat} (ht : 10 * t + 10 ≤ L) (hL : L ≤ 5120) {RG : XO → Prop} (ok : OK_slot RG) {Ω : XO} (hR : RG Ω) {cu su : Nat} (hcu : cu + 10 ≤ 601024) (hsu : su + 60 ≤ 7293034) (k : ∀ Ω', RG Ω' → XW G B 7 2361 [(4, .int (nI (10 * t))), (3, .ref (ad G 2017 0)), (2, .ref (ad G 11 0)), (1, .ref (ad G 10 0)), (0, .ref b)] [] Ω' (cu + 5) (su + 30)) : XW G B 7 1386 [(4, .int (nI (10 * t))), (3, .ref (ad G 2017 0)), (2, .ref (ad G 11 0)), (1, .ref (ad G 10 0)), (0, .ref b)] [] Ω cu su := by
  obtain ⟨r0, r, q, g1, g2, g3, g4, g5, g6⟩ := ok Ω (xs (10 * t + 1)) (xs (10 * t + 2)) (xs (10 * t + 3)) (xs (10 * t + 4)) hR
  refine z_aload_n (pc2 := 1387) C dL_law_1386 3 rfl rfl rfl ?_
  refine z_arg (k := 1) (j := 10 * t + 1) (p1 := 1388) (p2 := 1390) (p3 := 1391) (p4 := 1392) (p5 := 1393) C S dL_law_1387 dL_law_1388 dL_law_1390 dL_law_1391 dL_law_1392 4 0 rfl rfl (Or.inl ⟨rfl, rfl⟩) (by decide) rfl (by omega) hL rfl rfl rfl rfl rfl ?_
  refine z_arg (k := 2) (j := 10 * t + 2) (p1 := 1394) (p2 := 1396) (p3 := 1397) (p4 := 1398) (p5 := 1399) C S dL_law_1393 dL_law_1394 dL_law_1396 dL_law_1397 dL_law_1398 4 0 rfl rfl (Or.inl ⟨rfl, rfl⟩) (by decide) rfl (by omega) hL rfl rfl rfl rfl rfl ?_
  refine z_arg (k := 3) (j := 10 * t + 3) (p1 := 1400) (p2 := 1402) (p3 := 1403) (p4 := 1404) (p5 := 1405) C S dL_law_1399 dL_law_1400 dL_law_1402 dL_law_1403 dL_law_1404 4 0 rfl rfl (Or.inl ⟨rfl, rfl⟩) (by decide) rfl (by omega) hL rfl rfl rfl rfl rfl ?_
  refine z_arg (k := 4) (j := 10 * t + 4) (p1 := 1406) (p2 := 1408) (p3 := 1409) (p4 := 1410) (p5 := 1411) C S dL_law_1405 dL_law_1406 dL_law_1408 dL_law_1409 dL_law_1410 4 0 rfl rfl (Or.inl ⟨rfl, rfl⟩) (by decide) rfl (by omega) hL rfl rfl rfl rfl rfl ?_
  refine z_aload_n (pc2 := 1412) C dL_law_1411 1 rfl rfl rfl ?_
  refine x_ret (rest := []) (st2 := [.int r.1]) (pc2 := 1415) (cu2 := cu + 5) (su2 := su + 30) (z_cH C hN kmL_slot rfl kk_L_166 (hL_slot hok hd10 hd17 (by rw [g1]; exact g2)) rfl rfl (Nat.le_of_ble_eq_true rfl) ⟨(Nat.le_of_ble_eq_true rfl), (Nat.le_of_ble_eq_true rfl)⟩ ⟨by show cu + 5 ≤ 601024; omega, by show su + 30 ≤ 7293034; omega⟩ dL_law_1412) rfl rfl rfl rfl ?_
  refine z_istore (pc2 := 1417) (lv2 := [(5, .int r.1), (4, .int (nI (10 * t))), (3, .ref (ad G 2017 0)), (2, .ref (ad G 11 0)), (1, .ref (ad G 10 0)), (0, .ref b)]) C dL_law_1415 (by decide) rfl rfl ?_
  refine z_aload_n (pc2 := 1418) C dL_law_1417 3 rfl rfl rfl ?_
  refine z_arg (k := 1) (j := 10 * t + 1) (p1 := 1419) (p2 := 1421) (p3 := 1422) (p4 := 1423) (p5 := 1424) C S dL_law_1418 dL_law_1419 dL_law_1421 dL_law_1422 dL_law_1423 5 1 rfl rfl (Or.inl ⟨rfl, rfl⟩) (by decide) rfl (by omega) hL rfl rfl rfl rfl rfl ?_
  refine z_arg (k := 2) (j := 10 * t + 2) (p1 := 1425) (p2 := 1427) (p3 := 1428) (p4 := 1429) (p5 := 1430) C S dL_law_1424 dL_law_1425 dL_law_1427 dL_law_1428 dL_law_1429 5 1 rfl rfl (Or.inl ⟨rfl, rfl⟩) (by decide) rfl (by omega) hL rfl rfl rfl rfl rfl ?_
  refine z_arg (k := 3) (j := 10 * t + 3) (p1 := 1431) (p2 := 1433) (p3 := 1434) (p4 := 1435) (p5 := 1436) C S dL_law_1430 dL_law_1431 dL_law_1433 dL_law_1434 dL_law_1435 5 1 rfl rfl (Or.inl ⟨rfl, rfl⟩) (by decide) rfl (by omega) hL rfl rfl rfl rfl rfl ?_
  refine z_arg (k := 4) (j := 10 * t + 4) (p1 := 1437) (p2 := 1439) (p3 := 1440) (p4 := 1441) (p5 := 1442) C S dL_law_1436 dL_law_1437 dL_law_1439 dL_law_1440 dL_law_1441 5 1 rfl rfl (Or.inl ⟨rfl, rfl⟩) (by decide) rfl (by omega) hL rfl rfl rfl rfl rfl ?_
  refine x_ret (rest := []) (st2 := [.int q.1]) (pc2 := 1445) (cu2 := cu + 5) (su2 := su + 30) (z_cV C hd11 (Nat.le_of_ble_eq_true rfl) kmX11_slot rfl kk_L_168 (tX11_slot hok hd11 g3) rfl rfl (Nat.le_of_ble_eq_true rfl) ⟨(Nat.le_of_ble_eq_true rfl), (Nat.le_of_ble_eq_true rfl)⟩ ⟨by show cu + 5 + 0 ≤ 601024; omega, by show su + 30 + 0 ≤ 7293034; omega⟩ dL_law_1442) rfl rfl rfl rfl ?_
  refine z_istore (pc2 := 1447) (lv2 := [(6, .int q.1), (5, .int r.1), (4, .int (nI (10 * t))), (3, .ref (ad G 2017 0)), (2, .ref (ad G 11 0)), (1, .ref (ad G 10 0)), (0, .ref b)]) C dL_law_1445 (by decide) rfl rfl ?_
  refine z_aload_n (pc2 := 1448) C dL_law_1447 4 rfl rfl rfl ?_
  refine x_ret (rest := []) (st2 := [.int r.1]) (pc2 := 1451) (cu2 := cu + 5) (su2 := su + 30) (z_cV C hd11 (Nat.le_of_ble_eq_true rfl) kmX11_thrown rfl kk_L_115 (tX11_thrown hok hd11 (r := r.1) (by rw [← g4]; rfl)) rfl rfl (Nat.le_of_ble_eq_true rfl) ⟨(Nat.le_of_ble_eq_true rfl), (Nat.le_of_ble_eq_true rfl)⟩ ⟨by show cu + 5 + 0 ≤ 601024; omega, by show su + 30 + 0 ≤ 7293034; omega⟩ dL_law_1448) rfl rfl rfl rfl ?_
  refine z_iload (pc2 := 1453) C dL_law_1451 1 rfl rfl ?_
  refine z_icmp_eq (tgt := 1458) (pc2 := 1456) C dL_law_1453 (by decide) rfl (fun _ => ?_) (fun h9 => absurd rfl h9)
  refine z_iload (pc2 := 1460) C dL_law_1458 1 rfl rfl ?_
  have fin : XW G B 7 1475 [(6, .int q.1), (5, .int r.1), (4, .int (nI (10 * t))), (3, .ref (ad G 2017 0)), (2, .ref (ad G 11 0)), (1, .ref (ad G 10 0)), (0, .ref b)] [] q.2 (cu + 5) (su + 30) := by
    refine z_goto (tgt := 2361) C dL_law_1475 (by decide) ?_
    exact z_sub (lv2 := [(4, .int (nI (10 * t))), (3, .ref (ad G 2017 0)), (2, .ref (ad G 11 0)), (1, .ref (ad G 10 0)), (0, .ref b)]) C [2, 3, 4, 5, 6] rfl (k q.2 g6)
  refine z_if_ne (tgt := 1475) (pc2 := 1463) C dL_law_1460 (by decide) rfl (fun _ => fin) (fun h8 => ?_)
  refine z_aload_n (pc2 := 1464) C dL_law_1463 3 rfl rfl rfl ?_
  refine z_iconst (pc2 := 1465) (v := 0) C dL_law_1464 rfl rfl ?_
  refine z_lald (pc2 := 1466) C hd17 dL_law_1465 rfl (nI_in (c := 0) (N := 1) (by decide) (by decide)) rfl ?_
  refine z_iload (pc2 := 1468) C dL_law_1466 0 rfl rfl ?_
  refine z_i2l (pc2 := 1469) C dL_law_1468 rfl ?_
  refine z_lcmp (pc2 := 1470) C dL_law_1469 rfl ?_
  exact z_if_eq (tgt := 1475) (pc2 := 1473) C dL_law_1470 (by decide) rfl (fun _ => fin) (fun h9 => absurd (cmp0 (g5 h8)) h9)
set_option maxRecDepth 20000 in
theorem lc_burned {G : XG} (hok : XK G) {B : XB} (C : XZ G B cL_law RL room_1 7) (hN : XNB B) {b L : Nat} {xs : Nat → Int32} (S : XSc G b L xs B) (hd10 : dm G 10 0) (hd11 : dm G 11 0) (hd17 : dm G 2017 0) {t : Nat} (ht : 10 * t + 10 ≤ L) (hL : L ≤ 5120) {RG : XO → Prop} (ok : OK_burned RG) {Ω : XO} (hR : RG Ω) {cu su : Nat} (hcu : cu + 10 ≤ 601024) (hsu : su + 60 ≤ 7293034) (k : ∀ Ω', RG Ω' → XW G B 7 2361 [(4, .int (nI (10 * t))), (3, .ref (ad G 2017 0)), (2, .ref (ad G 11 0)), (1, .ref (ad G 10 0)), (0, .ref b)] [] Ω' (cu + 4) (su + 24)) : XW G B 7 1478 [(4, .int (nI (10 * t))), (3, .ref (ad G 2017 0)), (2, .ref (ad G 11 0)), (1, .ref (ad G 10 0)), (0, .ref b)] [] Ω cu su := by
  obtain ⟨r0, r, q, g1, g2, g3, g4, g5, g6⟩ := ok Ω (xs (10 * t + 1)) (xs (10 * t + 2)) hR
  refine z_aload_n (pc2 := 1479) C dL_law_1478 3 rfl rfl rfl ?_
  refine z_arg (k := 1) (j := 10 * t + 1) (p1 := 1480) (p2 := 1482) (p3 := 1483) (p4 := 1484) (p5 := 1485) C S dL_law_1479 dL_law_1480 dL_law_1482 dL_law_1483 dL_law_1484 4 0 rfl rfl (Or.inl ⟨rfl, rfl⟩) (by decide) rfl (by omega) hL rfl rfl rfl rfl rfl ?_
  refine z_arg (k := 2) (j := 10 * t + 2) (p1 := 1486) (p2 := 1488) (p3 := 1489) (p4 := 1490) (p5 := 1491) C S dL_law_1485 dL_law_1486 dL_law_1488 dL_law_1489 dL_law_1490 4 0 rfl rfl (Or.inl ⟨rfl, rfl⟩) (by decide) rfl (by omega) hL rfl rfl rfl rfl rfl ?_
  refine z_aload_n (pc2 := 1492) C dL_law_1491 1 rfl rfl rfl ?_
  refine x_ret (rest := []) (st2 := [.int r.1]) (pc2 := 1495) (cu2 := cu + 4) (su2 := su + 24) (z_cH C hN kmL_burned rfl kk_L_169 (hL_burned hok hd10 hd17 (by rw [g1]; exact g2)) rfl rfl (Nat.le_of_ble_eq_true rfl) ⟨(Nat.le_of_ble_eq_true rfl), (Nat.le_of_ble_eq_true rfl)⟩ ⟨by show cu + 4 ≤ 601024; omega, by show su + 24 ≤ 7293034; omega⟩ dL_law_1492) rfl rfl rfl rfl ?_
  refine z_istore (pc2 := 1497) (lv2 := [(5, .int r.1), (4, .int (nI (10 * t))), (3, .ref (ad G 2017 0)), (2, .ref (ad G 11 0)), (1, .ref (ad G 10 0)), (0, .ref b)]) C dL_law_1495 (by decide) rfl rfl ?_
  refine z_aload_n (pc2 := 1498) C dL_law_1497 3 rfl rfl rfl ?_
  refine z_arg (k := 1) (j := 10 * t + 1) (p1 := 1499) (p2 := 1501) (p3 := 1502) (p4 := 1503) (p5 := 1504) C S dL_law_1498 dL_law_1499 dL_law_1501 dL_law_1502 dL_law_1503 5 1 rfl rfl (Or.inl ⟨rfl, rfl⟩) (by decide) rfl (by omega) hL rfl rfl rfl rfl rfl ?_
  refine z_arg (k := 2) (j := 10 * t + 2) (p1 := 1505) (p2 := 1507) (p3 := 1508) (p4 := 1509) (p5 := 1510) C S dL_law_1504 dL_law_1505 dL_law_1507 dL_law_1508 dL_law_1509 5 1 rfl rfl (Or.inl ⟨rfl, rfl⟩) (by decide) rfl (by omega) hL rfl rfl rfl rfl rfl ?_
  refine x_ret (rest := []) (st2 := [.int q.1]) (pc2 := 1513) (cu2 := cu + 4) (su2 := su + 24) (z_cV C hd11 (Nat.le_of_ble_eq_true rfl) kmX11_burned rfl kk_L_171 (tX11_burned hok hd11 g3) rfl rfl (Nat.le_of_ble_eq_true rfl) ⟨(Nat.le_of_ble_eq_true rfl), (Nat.le_of_ble_eq_true rfl)⟩ ⟨by show cu + 4 + 0 ≤ 601024; omega, by show su + 24 + 0 ≤ 7293034; omega⟩ dL_law_1510) rfl rfl rfl rfl ?_
  refine z_istore (pc2 := 1515) (lv2 := [(6, .int q.1), (5, .int r.1), (4, .int (nI (10 * t))), (3, .ref (ad G 2017 0)), (2, .ref (ad G 11 0)), (1, .ref (ad G 10 0)), (0, .ref b)]) C dL_law_1513 (by decide) rfl rfl ?_
  refine z_aload_n (pc2 := 1516) C dL_law_1515 4 rfl rfl rfl ?_
  refine x_ret (rest := []) (st2 := [.int r.1]) (pc2 := 1519) (cu2 := cu + 4) (su2 := su + 24) (z_cV C hd11 (Nat.le_of_ble_eq_true rfl) kmX11_thrown rfl kk_L_115 (tX11_thrown hok hd11 (r := r.1) (by rw [← g4]; rfl)) rfl rfl (Nat.le_of_ble_eq_true rfl) ⟨(Nat.le_of_ble_eq_true rfl), (Nat.le_of_ble_eq_true rfl)⟩ ⟨by show cu + 4 + 0 ≤ 601024; omega, by show su + 24 + 0 ≤ 7293034; omega⟩ dL_law_1516) rfl rfl rfl rfl ?_
  refine z_iload (pc2 := 1521) C dL_law_1519 1 rfl rfl ?_
  refine z_icmp_eq (tgt := 1526) (pc2 := 1524) C dL_law_1521 (by decide) rfl (fun _ => ?_) (fun h9 => absurd rfl h9)
  refine z_iload (pc2 := 1528) C dL_law_1526 1 rfl rfl ?_
  have fin : XW G B 7 1543 [(6, .int q.1), (5, .int r.1), (4, .int (nI (10 * t))), (3, .ref (ad G 2017 0)), (2, .ref (ad G 11 0)), (1, .ref (ad G 10 0)), (0, .ref b)] [] q.2 (cu + 4) (su + 24) := by
    refine z_goto (tgt := 2361) C dL_law_1543 (by decide) ?_
    exact z_sub (lv2 := [(4, .int (nI (10 * t))), (3, .ref (ad G 2017 0)), (2, .ref (ad G 11 0)), (1, .ref (ad G 10 0)), (0, .ref b)]) C [2, 3, 4, 5, 6] rfl (k q.2 g6)
  refine z_if_ne (tgt := 1543) (pc2 := 1531) C dL_law_1528 (by decide) rfl (fun _ => fin) (fun h8 => ?_)
  refine z_aload_n (pc2 := 1532) C dL_law_1531 3 rfl rfl rfl ?_
  refine z_iconst (pc2 := 1533) (v := 0) C dL_law_1532 rfl rfl ?_
  refine z_lald (pc2 := 1534) C hd17 dL_law_1533 rfl (nI_in (c := 0) (N := 1) (by decide) (by decide)) rfl ?_
  refine z_iload (pc2 := 1536) C dL_law_1534 0 rfl rfl ?_
  refine z_i2l (pc2 := 1537) C dL_law_1536 rfl ?_
  refine z_lcmp (pc2 := 1538) C dL_law_1537 rfl ?_
  exact z_if_eq (tgt := 1543) (pc2 := 1541) C dL_law_1538 (by decide) rfl (fun _ => fin) (fun h9 => absurd (cmp0 (g5 h8)) h9)
set_option maxRecDepth 20000 in
theorem lc_root {G : XG} (hok : XK G) {B : XB} (C : XZ G B cL_law RL room_1 7) (hN : XNB B) {b L : Nat} {xs : Nat → Int32} (S : XSc G b L xs B) (hd10 : dm G 10 0) (hd11 : dm G 11 0) (hd17 : dm G 2017 0) {t : Nat} (ht : 10 * t + 10 ≤ L) (hL : L ≤ 5120) {RG : XO → Prop} (ok : OK_root RG) {Ω : XO} (hR : RG Ω) {cu su : Nat} (hcu : cu + 10 ≤ 601024) (hsu : su + 60 ≤ 7293034) (k : ∀ Ω', RG Ω' → XW G B 7 2361 [(4, .int (nI (10 * t))), (3, .ref (ad G 2017 0)), (2, .ref (ad G 11 0)), (1, .ref (ad G 10 0)), (0, .ref b)] [] Ω' (cu + 2) (su + 12)) : XW G B 7 1546 [(4, .int (nI (10 * t))), (3, .ref (ad G 2017 0)), (2, .ref (ad G 11 0)), (1, .ref (ad G 10 0)), (0, .ref b)] [] Ω cu su := by
  obtain ⟨r0, r, q, g1, g2, g3, g4, g5, g6⟩ := ok Ω (xs (10 * t + 1)) (xs (10 * t + 2)) hR
  refine z_aload_n (pc2 := 1547) C dL_law_1546 3 rfl rfl rfl ?_
  refine z_arg (k := 1) (j := 10 * t + 1) (p1 := 1548) (p2 := 1550) (p3 := 1551) (p4 := 1552) (p5 := 1553) C S dL_law_1547 dL_law_1548 dL_law_1550 dL_law_1551 dL_law_1552 4 0 rfl rfl (Or.inl ⟨rfl, rfl⟩) (by decide) rfl (by omega) hL rfl rfl rfl rfl rfl ?_
  refine z_arg (k := 2) (j := 10 * t + 2) (p1 := 1554) (p2 := 1556) (p3 := 1557) (p4 := 1558) (p5 := 1559) C S dL_law_1553 dL_law_1554 dL_law_1556 dL_law_1557 dL_law_1558 4 0 rfl rfl (Or.inl ⟨rfl, rfl⟩) (by decide) rfl (by omega) hL rfl rfl rfl rfl rfl ?_
  refine z_aload_n (pc2 := 1560) C dL_law_1559 1 rfl rfl rfl ?_
  refine x_ret (rest := []) (st2 := [.int r.1]) (pc2 := 1563) (cu2 := cu + 2) (su2 := su + 12) (z_cH C hN kmL_root rfl kk_L_172 (hL_root hok hd10 hd17 (by rw [g1]; exact g2)) rfl rfl (Nat.le_of_ble_eq_true rfl) ⟨(Nat.le_of_ble_eq_true rfl), (Nat.le_of_ble_eq_true rfl)⟩ ⟨by show cu + 2 ≤ 601024; omega, by show su + 12 ≤ 7293034; omega⟩ dL_law_1560) rfl rfl rfl rfl ?_
  refine z_istore (pc2 := 1565) (lv2 := [(5, .int r.1), (4, .int (nI (10 * t))), (3, .ref (ad G 2017 0)), (2, .ref (ad G 11 0)), (1, .ref (ad G 10 0)), (0, .ref b)]) C dL_law_1563 (by decide) rfl rfl ?_
  refine z_aload_n (pc2 := 1566) C dL_law_1565 3 rfl rfl rfl ?_
  refine z_arg (k := 1) (j := 10 * t + 1) (p1 := 1567) (p2 := 1569) (p3 := 1570) (p4 := 1571) (p5 := 1572) C S dL_law_1566 dL_law_1567 dL_law_1569 dL_law_1570 dL_law_1571 5 1 rfl rfl (Or.inl ⟨rfl, rfl⟩) (by decide) rfl (by omega) hL rfl rfl rfl rfl rfl ?_
  refine z_arg (k := 2) (j := 10 * t + 2) (p1 := 1573) (p2 := 1575) (p3 := 1576) (p4 := 1577) (p5 := 1578) C S dL_law_1572 dL_law_1573 dL_law_1575 dL_law_1576 dL_law_1577 5 1 rfl rfl (Or.inl ⟨rfl, rfl⟩) (by decide) rfl (by omega) hL rfl rfl rfl rfl rfl ?_
  refine x_ret (rest := []) (st2 := [.int q.1]) (pc2 := 1581) (cu2 := cu + 2) (su2 := su + 12) (z_cV C hd11 (Nat.le_of_ble_eq_true rfl) kmX11_root rfl kk_L_174 (tX11_root hok hd11 g3) rfl rfl (Nat.le_of_ble_eq_true rfl) ⟨(Nat.le_of_ble_eq_true rfl), (Nat.le_of_ble_eq_true rfl)⟩ ⟨by show cu + 2 + 0 ≤ 601024; omega, by show su + 12 + 0 ≤ 7293034; omega⟩ dL_law_1578) rfl rfl rfl rfl ?_
  refine z_istore (pc2 := 1583) (lv2 := [(6, .int q.1), (5, .int r.1), (4, .int (nI (10 * t))), (3, .ref (ad G 2017 0)), (2, .ref (ad G 11 0)), (1, .ref (ad G 10 0)), (0, .ref b)]) C dL_law_1581 (by decide) rfl rfl ?_
  refine z_aload_n (pc2 := 1584) C dL_law_1583 4 rfl rfl rfl ?_
  refine x_ret (rest := []) (st2 := [.int r.1]) (pc2 := 1587) (cu2 := cu + 2) (su2 := su + 12) (z_cV C hd11 (Nat.le_of_ble_eq_true rfl) kmX11_thrown rfl kk_L_115 (tX11_thrown hok hd11 (r := r.1) (by rw [← g4]; rfl)) rfl rfl (Nat.le_of_ble_eq_true rfl) ⟨(Nat.le_of_ble_eq_true rfl), (Nat.le_of_ble_eq_true rfl)⟩ ⟨by show cu + 2 + 0 ≤ 601024; omega, by show su + 12 + 0 ≤ 7293034; omega⟩ dL_law_1584) rfl rfl rfl rfl ?_
  refine z_iload (pc2 := 1589) C dL_law_1587 1 rfl rfl ?_
  refine z_icmp_eq (tgt := 1594) (pc2 := 1592) C dL_law_1589 (by decide) rfl (fun _ => ?_) (fun h9 => absurd rfl h9)
  refine z_iload (pc2 := 1596) C dL_law_1594 1 rfl rfl ?_
  have fin : XW G B 7 1611 [(6, .int q.1), (5, .int r.1), (4, .int (nI (10 * t))), (3, .ref (ad G 2017 0)), (2, .ref (ad G 11 0)), (1, .ref (ad G 10 0)), (0, .ref b)] [] q.2 (cu + 2) (su + 12) := by
    refine z_goto (tgt := 2361) C dL_law_1611 (by decide) ?_
    exact z_sub (lv2 := [(4, .int (nI (10 * t))), (3, .ref (ad G 2017 0)), (2, .ref (ad G 11 0)), (1, .ref (ad G 10 0)), (0, .ref b)]) C [2, 3, 4, 5, 6] rfl (k q.2 g6)
  refine z_if_ne (tgt := 1611) (pc2 := 1599) C dL_law_1596 (by decide) rfl (fun _ => fin) (fun h8 => ?_)
  refine z_aload_n (pc2 := 1600) C dL_law_1599 3 rfl rfl rfl ?_
  refine z_iconst (pc2 := 1601) (v := 0) C dL_law_1600 rfl rfl ?_
  refine z_lald (pc2 := 1602) C hd17 dL_law_1601 rfl (nI_in (c := 0) (N := 1) (by decide) (by decide)) rfl ?_
  refine z_iload (pc2 := 1604) C dL_law_1602 0 rfl rfl ?_
  refine z_i2l (pc2 := 1605) C dL_law_1604 rfl ?_
  refine z_lcmp (pc2 := 1606) C dL_law_1605 rfl ?_
  exact z_if_eq (tgt := 1611) (pc2 := 1609) C dL_law_1606 (by decide) rfl (fun _ => fin) (fun h9 => absurd (cmp0 (g5 h8)) h9)
set_option maxRecDepth 20000 in
theorem lc_rootAnew {G : XG} (hok : XK G) {B : XB} (C : XZ G B cL_law RL room_1 7) (hN : XNB B) {b L : Nat} {xs : Nat → Int32} (S : XSc G b L xs B) (hd10 : dm G 10 0) (hd11 : dm G 11 0) (hd17 : dm G 2017 0) {t : Nat} (ht : 10 * t + 10 ≤ L) (hL : L ≤ 5120) {RG : XO → Prop} (ok : OK_rootAnew RG) {Ω : XO} (hR : RG Ω) {cu su : Nat} (hcu : cu + 10 ≤ 601024) (hsu : su + 60 ≤ 7293034) (k : ∀ Ω', RG Ω' → XW G B 7 2361 [(4, .int (nI (10 * t))), (3, .ref (ad G 2017 0)), (2, .ref (ad G 11 0)), (1, .ref (ad G 10 0)), (0, .ref b)] [] Ω' (cu + 3) (su + 18)) : XW G B 7 1614 [(4, .int (nI (10 * t))), (3, .ref (ad G 2017 0)), (2, .ref (ad G 11 0)), (1, .ref (ad G 10 0)), (0, .ref b)] [] Ω cu su := by
  obtain ⟨r0, r, q, g1, g2, g3, g4, g5, g6⟩ := ok Ω (xs (10 * t + 1)) (xs (10 * t + 2)) hR
  refine z_aload_n (pc2 := 1615) C dL_law_1614 3 rfl rfl rfl ?_
  refine z_arg (k := 1) (j := 10 * t + 1) (p1 := 1616) (p2 := 1618) (p3 := 1619) (p4 := 1620) (p5 := 1621) C S dL_law_1615 dL_law_1616 dL_law_1618 dL_law_1619 dL_law_1620 4 0 rfl rfl (Or.inl ⟨rfl, rfl⟩) (by decide) rfl (by omega) hL rfl rfl rfl rfl rfl ?_
  refine z_arg (k := 2) (j := 10 * t + 2) (p1 := 1622) (p2 := 1624) (p3 := 1625) (p4 := 1626) (p5 := 1627) C S dL_law_1621 dL_law_1622 dL_law_1624 dL_law_1625 dL_law_1626 4 0 rfl rfl (Or.inl ⟨rfl, rfl⟩) (by decide) rfl (by omega) hL rfl rfl rfl rfl rfl ?_
  refine z_aload_n (pc2 := 1628) C dL_law_1627 1 rfl rfl rfl ?_
  refine x_ret (rest := []) (st2 := [.int r.1]) (pc2 := 1631) (cu2 := cu + 3) (su2 := su + 18) (z_cH C hN kmL_rootAnew rfl kk_L_175 (hL_rootAnew hok hd10 hd17 g1 g2) rfl rfl (Nat.le_of_ble_eq_true rfl) ⟨(Nat.le_of_ble_eq_true rfl), (Nat.le_of_ble_eq_true rfl)⟩ ⟨by show cu + 3 ≤ 601024; omega, by show su + 18 ≤ 7293034; omega⟩ dL_law_1628) rfl rfl rfl rfl ?_
  refine z_istore (pc2 := 1633) (lv2 := [(5, .int r.1), (4, .int (nI (10 * t))), (3, .ref (ad G 2017 0)), (2, .ref (ad G 11 0)), (1, .ref (ad G 10 0)), (0, .ref b)]) C dL_law_1631 (by decide) rfl rfl ?_
  refine z_aload_n (pc2 := 1634) C dL_law_1633 3 rfl rfl rfl ?_
  refine z_arg (k := 1) (j := 10 * t + 1) (p1 := 1635) (p2 := 1637) (p3 := 1638) (p4 := 1639) (p5 := 1640) C S dL_law_1634 dL_law_1635 dL_law_1637 dL_law_1638 dL_law_1639 5 1 rfl rfl (Or.inl ⟨rfl, rfl⟩) (by decide) rfl (by omega) hL rfl rfl rfl rfl rfl ?_
  refine z_arg (k := 2) (j := 10 * t + 2) (p1 := 1641) (p2 := 1643) (p3 := 1644) (p4 := 1645) (p5 := 1646) C S dL_law_1640 dL_law_1641 dL_law_1643 dL_law_1644 dL_law_1645 5 1 rfl rfl (Or.inl ⟨rfl, rfl⟩) (by decide) rfl (by omega) hL rfl rfl rfl rfl rfl ?_
  refine x_ret (rest := []) (st2 := [.int q.1]) (pc2 := 1649) (cu2 := cu + 3) (su2 := su + 18) (z_cV C hd11 (Nat.le_of_ble_eq_true rfl) kmX11_rootAnew rfl kk_L_177 (tX11_rootAnew hok hd11 g3) rfl rfl (Nat.le_of_ble_eq_true rfl) ⟨(Nat.le_of_ble_eq_true rfl), (Nat.le_of_ble_eq_true rfl)⟩ ⟨by show cu + 3 + 0 ≤ 601024; omega, by show su + 18 + 0 ≤ 7293034; omega⟩ dL_law_1646) rfl rfl rfl rfl ?_
  refine z_istore (pc2 := 1651) (lv2 := [(6, .int q.1), (5, .int r.1), (4, .int (nI (10 * t))), (3, .ref (ad G 2017 0)), (2, .ref (ad G 11 0)), (1, .ref (ad G 10 0)), (0, .ref b)]) C dL_law_1649 (by decide) rfl rfl ?_
  refine z_aload_n (pc2 := 1652) C dL_law_1651 4 rfl rfl rfl ?_
  refine x_ret (rest := []) (st2 := [.int r.1]) (pc2 := 1655) (cu2 := cu + 3) (su2 := su + 18) (z_cV C hd11 (Nat.le_of_ble_eq_true rfl) kmX11_thrown rfl kk_L_115 (tX11_thrown hok hd11 (r := r.1) (by rw [← g4]; rfl)) rfl rfl (Nat.le_of_ble_eq_true rfl) ⟨(Nat.le_of_ble_eq_true rfl), (Nat.le_of_ble_eq_true rfl)⟩ ⟨by show cu + 3 + 0 ≤ 601024; omega, by show su + 18 + 0 ≤ 7293034; omega⟩ dL_law_1652) rfl rfl rfl rfl ?_
  refine z_iload (pc2 := 1657) C dL_law_1655 1 rfl rfl ?_
  refine z_icmp_eq (tgt := 1662) (pc2 := 1660) C dL_law_1657 (by decide) rfl (fun _ => ?_) (fun h9 => absurd rfl h9)
  refine z_iload (pc2 := 1664) C dL_law_1662 1 rfl rfl ?_
  have fin : XW G B 7 1679 [(6, .int q.1), (5, .int r.1), (4, .int (nI (10 * t))), (3, .ref (ad G 2017 0)), (2, .ref (ad G 11 0)), (1, .ref (ad G 10 0)), (0, .ref b)] [] q.2 (cu + 3) (su + 18) := by
    refine z_goto (tgt := 2361) C dL_law_1679 (by decide) ?_
    exact z_sub (lv2 := [(4, .int (nI (10 * t))), (3, .ref (ad G 2017 0)), (2, .ref (ad G 11 0)), (1, .ref (ad G 10 0)), (0, .ref b)]) C [2, 3, 4, 5, 6] rfl (k q.2 g6)
  refine z_if_ne (tgt := 1679) (pc2 := 1667) C dL_law_1664 (by decide) rfl (fun _ => fin) (fun h8 => ?_)
  refine z_aload_n (pc2 := 1668) C dL_law_1667 3 rfl rfl rfl ?_
  refine z_iconst (pc2 := 1669) (v := 0) C dL_law_1668 rfl rfl ?_
  refine z_lald (pc2 := 1670) C hd17 dL_law_1669 rfl (nI_in (c := 0) (N := 1) (by decide) (by decide)) rfl ?_
  refine z_iload (pc2 := 1672) C dL_law_1670 0 rfl rfl ?_
  refine z_i2l (pc2 := 1673) C dL_law_1672 rfl ?_
  refine z_lcmp (pc2 := 1674) C dL_law_1673 rfl ?_
  exact z_if_eq (tgt := 1679) (pc2 := 1677) C dL_law_1674 (by decide) rfl (fun _ => fin) (fun h9 => absurd (cmp0 (g5 h8)) h9)
set_option maxRecDepth 20000 in
theorem lc_leaf {G : XG} (hok : XK G) {B : XB} (C : XZ G B cL_law RL room_1 7) (hN : XNB B) {b L : Nat} {xs : Nat → Int32} (S : XSc G b L xs B) (hd10 : dm G 10 0) (hd11 : dm G 11 0) (hd17 : dm G 2017 0) {t : Nat} (ht : 10 * t + 10 ≤ L) (hL : L ≤ 5120) {RG : XO → Prop} (ok : OK_leaf RG) {Ω : XO} (hR : RG Ω) {cu su : Nat} (hcu : cu + 10 ≤ 601024) (hsu : su + 60 ≤ 7293034) (k : ∀ Ω', RG Ω' → XW G B 7 2361 [(4, .int (nI (10 * t))), (3, .ref (ad G 2017 0)), (2, .ref (ad G 11 0)), (1, .ref (ad G 10 0)), (0, .ref b)] [] Ω' (cu + 4) (su + 24)) : XW G B 7 1682 [(4, .int (nI (10 * t))), (3, .ref (ad G 2017 0)), (2, .ref (ad G 11 0)), (1, .ref (ad G 10 0)), (0, .ref b)] [] Ω cu su := by
  obtain ⟨r0, r, q, g1, g2, g3, g4, g5, g6⟩ := ok Ω (xs (10 * t + 1)) (xs (10 * t + 2)) (xs (10 * t + 3)) hR
  refine z_aload_n (pc2 := 1683) C dL_law_1682 3 rfl rfl rfl ?_
  refine z_arg (k := 1) (j := 10 * t + 1) (p1 := 1684) (p2 := 1686) (p3 := 1687) (p4 := 1688) (p5 := 1689) C S dL_law_1683 dL_law_1684 dL_law_1686 dL_law_1687 dL_law_1688 4 0 rfl rfl (Or.inl ⟨rfl, rfl⟩) (by decide) rfl (by omega) hL rfl rfl rfl rfl rfl ?_
  refine z_arg (k := 2) (j := 10 * t + 2) (p1 := 1690) (p2 := 1692) (p3 := 1693) (p4 := 1694) (p5 := 1695) C S dL_law_1689 dL_law_1690 dL_law_1692 dL_law_1693 dL_law_1694 4 0 rfl rfl (Or.inl ⟨rfl, rfl⟩) (by decide) rfl (by omega) hL rfl rfl rfl rfl rfl ?_
  refine z_arg (k := 3) (j := 10 * t + 3) (p1 := 1696) (p2 := 1698) (p3 := 1699) (p4 := 1700) (p5 := 1701) C S dL_law_1695 dL_law_1696 dL_law_1698 dL_law_1699 dL_law_1700 4 0 rfl rfl (Or.inl ⟨rfl, rfl⟩) (by decide) rfl (by omega) hL rfl rfl rfl rfl rfl ?_
  refine z_aload_n (pc2 := 1702) C dL_law_1701 1 rfl rfl rfl ?_
  refine x_ret (rest := []) (st2 := [.int r.1]) (pc2 := 1705) (cu2 := cu + 4) (su2 := su + 24) (z_cH C hN kmL_leaf rfl kk_L_178 (hL_leaf hok hd10 hd17 (by rw [g1]; exact g2)) rfl rfl (Nat.le_of_ble_eq_true rfl) ⟨(Nat.le_of_ble_eq_true rfl), (Nat.le_of_ble_eq_true rfl)⟩ ⟨by show cu + 4 ≤ 601024; omega, by show su + 24 ≤ 7293034; omega⟩ dL_law_1702) rfl rfl rfl rfl ?_
  refine z_istore (pc2 := 1707) (lv2 := [(5, .int r.1), (4, .int (nI (10 * t))), (3, .ref (ad G 2017 0)), (2, .ref (ad G 11 0)), (1, .ref (ad G 10 0)), (0, .ref b)]) C dL_law_1705 (by decide) rfl rfl ?_
  refine z_aload_n (pc2 := 1708) C dL_law_1707 3 rfl rfl rfl ?_
  refine z_arg (k := 1) (j := 10 * t + 1) (p1 := 1709) (p2 := 1711) (p3 := 1712) (p4 := 1713) (p5 := 1714) C S dL_law_1708 dL_law_1709 dL_law_1711 dL_law_1712 dL_law_1713 5 1 rfl rfl (Or.inl ⟨rfl, rfl⟩) (by decide) rfl (by omega) hL rfl rfl rfl rfl rfl ?_
  refine z_arg (k := 2) (j := 10 * t + 2) (p1 := 1715) (p2 := 1717) (p3 := 1718) (p4 := 1719) (p5 := 1720) C S dL_law_1714 dL_law_1715 dL_law_1717 dL_law_1718 dL_law_1719 5 1 rfl rfl (Or.inl ⟨rfl, rfl⟩) (by decide) rfl (by omega) hL rfl rfl rfl rfl rfl ?_
  refine z_arg (k := 3) (j := 10 * t + 3) (p1 := 1721) (p2 := 1723) (p3 := 1724) (p4 := 1725) (p5 := 1726) C S dL_law_1720 dL_law_1721 dL_law_1723 dL_law_1724 dL_law_1725 5 1 rfl rfl (Or.inl ⟨rfl, rfl⟩) (by decide) rfl (by omega) hL rfl rfl rfl rfl rfl ?_
  refine x_ret (rest := []) (st2 := [.int q.1]) (pc2 := 1729) (cu2 := cu + 4) (su2 := su + 24) (z_cV C hd11 (Nat.le_of_ble_eq_true rfl) kmX11_leaf rfl kk_L_180 (tX11_leaf hok hd11 g3) rfl rfl (Nat.le_of_ble_eq_true rfl) ⟨(Nat.le_of_ble_eq_true rfl), (Nat.le_of_ble_eq_true rfl)⟩ ⟨by show cu + 4 + 0 ≤ 601024; omega, by show su + 24 + 0 ≤ 7293034; omega⟩ dL_law_1726) rfl rfl rfl rfl ?_
  refine z_istore (pc2 := 1731) (lv2 := [(6, .int q.1), (5, .int r.1), (4, .int (nI (10 * t))), (3, .ref (ad G 2017 0)), (2, .ref (ad G 11 0)), (1, .ref (ad G 10 0)), (0, .ref b)]) C dL_law_1729 (by decide) rfl rfl ?_
  refine z_aload_n (pc2 := 1732) C dL_law_1731 4 rfl rfl rfl ?_
  refine x_ret (rest := []) (st2 := [.int r.1]) (pc2 := 1735) (cu2 := cu + 4) (su2 := su + 24) (z_cV C hd11 (Nat.le_of_ble_eq_true rfl) kmX11_thrown rfl kk_L_115 (tX11_thrown hok hd11 (r := r.1) (by rw [← g4]; rfl)) rfl rfl (Nat.le_of_ble_eq_true rfl) ⟨(Nat.le_of_ble_eq_true rfl), (Nat.le_of_ble_eq_true rfl)⟩ ⟨by show cu + 4 + 0 ≤ 601024; omega, by show su + 24 + 0 ≤ 7293034; omega⟩ dL_law_1732) rfl rfl rfl rfl ?_
  refine z_iload (pc2 := 1737) C dL_law_1735 1 rfl rfl ?_
  refine z_icmp_eq (tgt := 1742) (pc2 := 1740) C dL_law_1737 (by decide) rfl (fun _ => ?_) (fun h9 => absurd rfl h9)
  refine z_iload (pc2 := 1744) C dL_law_1742 1 rfl rfl ?_
  have fin : XW G B 7 1759 [(6, .int q.1), (5, .int r.1), (4, .int (nI (10 * t))), (3, .ref (ad G 2017 0)), (2, .ref (ad G 11 0)), (1, .ref (ad G 10 0)), (0, .ref b)] [] q.2 (cu + 4) (su + 24) := by
    refine z_goto (tgt := 2361) C dL_law_1759 (by decide) ?_
    exact z_sub (lv2 := [(4, .int (nI (10 * t))), (3, .ref (ad G 2017 0)), (2, .ref (ad G 11 0)), (1, .ref (ad G 10 0)), (0, .ref b)]) C [2, 3, 4, 5, 6] rfl (k q.2 g6)
  refine z_if_ne (tgt := 1759) (pc2 := 1747) C dL_law_1744 (by decide) rfl (fun _ => fin) (fun h8 => ?_)
  refine z_aload_n (pc2 := 1748) C dL_law_1747 3 rfl rfl rfl ?_
  refine z_iconst (pc2 := 1749) (v := 0) C dL_law_1748 rfl rfl ?_
  refine z_lald (pc2 := 1750) C hd17 dL_law_1749 rfl (nI_in (c := 0) (N := 1) (by decide) (by decide)) rfl ?_
  refine z_iload (pc2 := 1752) C dL_law_1750 0 rfl rfl ?_
  refine z_i2l (pc2 := 1753) C dL_law_1752 rfl ?_
  refine z_lcmp (pc2 := 1754) C dL_law_1753 rfl ?_
  exact z_if_eq (tgt := 1759) (pc2 := 1757) C dL_law_1754 (by decide) rfl (fun _ => fin) (fun h9 => absurd (cmp0 (g5 h8)) h9)
set_option maxRecDepth 20000 in
theorem lc_proof {G : XG} (hok : XK G) {B : XB} (C : XZ G B cL_law RL room_1 7) (hN : XNB B) {b L : Nat} {xs : Nat → Int32} (S : XSc G b L xs B) (hd10 : dm G 10 0) (hd11 : dm G 11 0) (hd17 : dm G 2017 0) {t : Nat} (ht : 10 * t + 10 ≤ L) (hL : L ≤ 5120) {RG : XO → Prop} (ok : OK_proof RG) {Ω : XO} (hR : RG Ω) {cu su : Nat} (hcu : cu + 10 ≤ 601024) (hsu : su + 60 ≤ 7293034) (k : ∀ Ω', RG Ω' → XW G B 7 2361 [(4, .int (nI (10 * t))), (3, .ref (ad G 2017 0)), (2, .ref (ad G 11 0)), (1, .ref (ad G 10 0)), (0, .ref b)] [] Ω' (cu + 5) (su + 30)) : XW G B 7 1762 [(4, .int (nI (10 * t))), (3, .ref (ad G 2017 0)), (2, .ref (ad G 11 0)), (1, .ref (ad G 10 0)), (0, .ref b)] [] Ω cu su := by
  obtain ⟨r0, r, q, g1, g2, g3, g4, g5, g6⟩ := ok Ω (xs (10 * t + 1)) (xs (10 * t + 2)) (xs (10 * t + 3)) (xs (10 * t + 4)) hR
  refine z_aload_n (pc2 := 1763) C dL_law_1762 3 rfl rfl rfl ?_
  refine z_arg (k := 1) (j := 10 * t + 1) (p1 := 1764) (p2 := 1766) (p3 := 1767) (p4 := 1768) (p5 := 1769) C S dL_law_1763 dL_law_1764 dL_law_1766 dL_law_1767 dL_law_1768 4 0 rfl rfl (Or.inl ⟨rfl, rfl⟩) (by decide) rfl (by omega) hL rfl rfl rfl rfl rfl ?_
  refine z_arg (k := 2) (j := 10 * t + 2) (p1 := 1770) (p2 := 1772) (p3 := 1773) (p4 := 1774) (p5 := 1775) C S dL_law_1769 dL_law_1770 dL_law_1772 dL_law_1773 dL_law_1774 4 0 rfl rfl (Or.inl ⟨rfl, rfl⟩) (by decide) rfl (by omega) hL rfl rfl rfl rfl rfl ?_
  refine z_arg (k := 3) (j := 10 * t + 3) (p1 := 1776) (p2 := 1778) (p3 := 1779) (p4 := 1780) (p5 := 1781) C S dL_law_1775 dL_law_1776 dL_law_1778 dL_law_1779 dL_law_1780 4 0 rfl rfl (Or.inl ⟨rfl, rfl⟩) (by decide) rfl (by omega) hL rfl rfl rfl rfl rfl ?_
  refine z_arg (k := 4) (j := 10 * t + 4) (p1 := 1782) (p2 := 1784) (p3 := 1785) (p4 := 1786) (p5 := 1787) C S dL_law_1781 dL_law_1782 dL_law_1784 dL_law_1785 dL_law_1786 4 0 rfl rfl (Or.inl ⟨rfl, rfl⟩) (by decide) rfl (by omega) hL rfl rfl rfl rfl rfl ?_
  refine z_aload_n (pc2 := 1788) C dL_law_1787 1 rfl rfl rfl ?_
  refine x_ret (rest := []) (st2 := [.int r.1]) (pc2 := 1791) (cu2 := cu + 5) (su2 := su + 30) (z_cH C hN kmL_proof rfl kk_L_181 (hL_proof hok hd10 hd17 (by rw [g1]; exact g2)) rfl rfl (Nat.le_of_ble_eq_true rfl) ⟨(Nat.le_of_ble_eq_true rfl), (Nat.le_of_ble_eq_true rfl)⟩ ⟨by show cu + 5 ≤ 601024; omega, by show su + 30 ≤ 7293034; omega⟩ dL_law_1788) rfl rfl rfl rfl ?_
  refine z_istore (pc2 := 1793) (lv2 := [(5, .int r.1), (4, .int (nI (10 * t))), (3, .ref (ad G 2017 0)), (2, .ref (ad G 11 0)), (1, .ref (ad G 10 0)), (0, .ref b)]) C dL_law_1791 (by decide) rfl rfl ?_
  refine z_aload_n (pc2 := 1794) C dL_law_1793 3 rfl rfl rfl ?_
  refine z_arg (k := 1) (j := 10 * t + 1) (p1 := 1795) (p2 := 1797) (p3 := 1798) (p4 := 1799) (p5 := 1800) C S dL_law_1794 dL_law_1795 dL_law_1797 dL_law_1798 dL_law_1799 5 1 rfl rfl (Or.inl ⟨rfl, rfl⟩) (by decide) rfl (by omega) hL rfl rfl rfl rfl rfl ?_
  refine z_arg (k := 2) (j := 10 * t + 2) (p1 := 1801) (p2 := 1803) (p3 := 1804) (p4 := 1805) (p5 := 1806) C S dL_law_1800 dL_law_1801 dL_law_1803 dL_law_1804 dL_law_1805 5 1 rfl rfl (Or.inl ⟨rfl, rfl⟩) (by decide) rfl (by omega) hL rfl rfl rfl rfl rfl ?_
  refine z_arg (k := 3) (j := 10 * t + 3) (p1 := 1807) (p2 := 1809) (p3 := 1810) (p4 := 1811) (p5 := 1812) C S dL_law_1806 dL_law_1807 dL_law_1809 dL_law_1810 dL_law_1811 5 1 rfl rfl (Or.inl ⟨rfl, rfl⟩) (by decide) rfl (by omega) hL rfl rfl rfl rfl rfl ?_
  refine z_arg (k := 4) (j := 10 * t + 4) (p1 := 1813) (p2 := 1815) (p3 := 1816) (p4 := 1817) (p5 := 1818) C S dL_law_1812 dL_law_1813 dL_law_1815 dL_law_1816 dL_law_1817 5 1 rfl rfl (Or.inl ⟨rfl, rfl⟩) (by decide) rfl (by omega) hL rfl rfl rfl rfl rfl ?_
  refine x_ret (rest := []) (st2 := [.int q.1]) (pc2 := 1821) (cu2 := cu + 5) (su2 := su + 30) (z_cV C hd11 (Nat.le_of_ble_eq_true rfl) kmX11_proof rfl kk_L_183 (tX11_proof hok hd11 g3) rfl rfl (Nat.le_of_ble_eq_true rfl) ⟨(Nat.le_of_ble_eq_true rfl), (Nat.le_of_ble_eq_true rfl)⟩ ⟨by show cu + 5 + 0 ≤ 601024; omega, by show su + 30 + 0 ≤ 7293034; omega⟩ dL_law_1818) rfl rfl rfl rfl ?_
  refine z_istore (pc2 := 1823) (lv2 := [(6, .int q.1), (5, .int r.1), (4, .int (nI (10 * t))), (3, .ref (ad G 2017 0)), (2, .ref (ad G 11 0)), (1, .ref (ad G 10 0)), (0, .ref b)]) C dL_law_1821 (by decide) rfl rfl ?_
  refine z_aload_n (pc2 := 1824) C dL_law_1823 4 rfl rfl rfl ?_
  refine x_ret (rest := []) (st2 := [.int r.1]) (pc2 := 1827) (cu2 := cu + 5) (su2 := su + 30) (z_cV C hd11 (Nat.le_of_ble_eq_true rfl) kmX11_thrown rfl kk_L_115 (tX11_thrown hok hd11 (r := r.1) (by rw [← g4]; rfl)) rfl rfl (Nat.le_of_ble_eq_true rfl) ⟨(Nat.le_of_ble_eq_true rfl), (Nat.le_of_ble_eq_true rfl)⟩ ⟨by show cu + 5 + 0 ≤ 601024; omega, by show su + 30 + 0 ≤ 7293034; omega⟩ dL_law_1824) rfl rfl rfl rfl ?_
  refine z_iload (pc2 := 1829) C dL_law_1827 1 rfl rfl ?_
  refine z_icmp_eq (tgt := 1834) (pc2 := 1832) C dL_law_1829 (by decide) rfl (fun _ => ?_) (fun h9 => absurd rfl h9)
  refine z_iload (pc2 := 1836) C dL_law_1834 1 rfl rfl ?_
  have fin : XW G B 7 1851 [(6, .int q.1), (5, .int r.1), (4, .int (nI (10 * t))), (3, .ref (ad G 2017 0)), (2, .ref (ad G 11 0)), (1, .ref (ad G 10 0)), (0, .ref b)] [] q.2 (cu + 5) (su + 30) := by
    refine z_goto (tgt := 2361) C dL_law_1851 (by decide) ?_
    exact z_sub (lv2 := [(4, .int (nI (10 * t))), (3, .ref (ad G 2017 0)), (2, .ref (ad G 11 0)), (1, .ref (ad G 10 0)), (0, .ref b)]) C [2, 3, 4, 5, 6] rfl (k q.2 g6)
  refine z_if_ne (tgt := 1851) (pc2 := 1839) C dL_law_1836 (by decide) rfl (fun _ => fin) (fun h8 => ?_)
  refine z_aload_n (pc2 := 1840) C dL_law_1839 3 rfl rfl rfl ?_
  refine z_iconst (pc2 := 1841) (v := 0) C dL_law_1840 rfl rfl ?_
  refine z_lald (pc2 := 1842) C hd17 dL_law_1841 rfl (nI_in (c := 0) (N := 1) (by decide) (by decide)) rfl ?_
  refine z_iload (pc2 := 1844) C dL_law_1842 0 rfl rfl ?_
  refine z_i2l (pc2 := 1845) C dL_law_1844 rfl ?_
  refine z_lcmp (pc2 := 1846) C dL_law_1845 rfl ?_
  exact z_if_eq (tgt := 1851) (pc2 := 1849) C dL_law_1846 (by decide) rfl (fun _ => fin) (fun h9 => absurd (cmp0 (g5 h8)) h9)
set_option maxRecDepth 20000 in
theorem lc_proves {G : XG} (hok : XK G) {B : XB} (C : XZ G B cL_law RL room_1 7) (hN : XNB B) {b L : Nat} {xs : Nat → Int32} (S : XSc G b L xs B) (hd10 : dm G 10 0) (hd11 : dm G 11 0) (hd17 : dm G 2017 0) {t : Nat} (ht : 10 * t + 10 ≤ L) (hL : L ≤ 5120) {RG : XO → Prop} (ok : OK_proves RG) {Ω : XO} (hR : RG Ω) {cu su : Nat} (hcu : cu + 10 ≤ 601024) (hsu : su + 60 ≤ 7293034) (k : ∀ Ω', RG Ω' → XW G B 7 2361 [(4, .int (nI (10 * t))), (3, .ref (ad G 2017 0)), (2, .ref (ad G 11 0)), (1, .ref (ad G 10 0)), (0, .ref b)] [] Ω' (cu + 8) (su + 48)) : XW G B 7 1854 [(4, .int (nI (10 * t))), (3, .ref (ad G 2017 0)), (2, .ref (ad G 11 0)), (1, .ref (ad G 10 0)), (0, .ref b)] [] Ω cu su := by
  obtain ⟨r0, r, q, g1, g2, g3, g4, g5, g6⟩ := ok Ω (xs (10 * t + 1)) (xs (10 * t + 2)) (xs (10 * t + 3)) (xs (10 * t + 4)) (xs (10 * t + 5)) (xs (10 * t + 6)) (xs (10 * t + 7)) (xs (10 * t + 8)) hR
  refine z_aload_n (pc2 := 1855) C dL_law_1854 3 rfl rfl rfl ?_
  refine z_arg (k := 1) (j := 10 * t + 1) (p1 := 1856) (p2 := 1858) (p3 := 1859) (p4 := 1860) (p5 := 1861) C S dL_law_1855 dL_law_1856 dL_law_1858 dL_law_1859 dL_law_1860 4 0 rfl rfl (Or.inl ⟨rfl, rfl⟩) (by decide) rfl (by omega) hL rfl rfl rfl rfl rfl ?_
  refine z_arg (k := 2) (j := 10 * t + 2) (p1 := 1862) (p2 := 1864) (p3 := 1865) (p4 := 1866) (p5 := 1867) C S dL_law_1861 dL_law_1862 dL_law_1864 dL_law_1865 dL_law_1866 4 0 rfl rfl (Or.inl ⟨rfl, rfl⟩) (by decide) rfl (by omega) hL rfl rfl rfl rfl rfl ?_
  refine z_arg (k := 3) (j := 10 * t + 3) (p1 := 1868) (p2 := 1870) (p3 := 1871) (p4 := 1872) (p5 := 1873) C S dL_law_1867 dL_law_1868 dL_law_1870 dL_law_1871 dL_law_1872 4 0 rfl rfl (Or.inl ⟨rfl, rfl⟩) (by decide) rfl (by omega) hL rfl rfl rfl rfl rfl ?_
  refine z_arg (k := 4) (j := 10 * t + 4) (p1 := 1874) (p2 := 1876) (p3 := 1877) (p4 := 1878) (p5 := 1879) C S dL_law_1873 dL_law_1874 dL_law_1876 dL_law_1877 dL_law_1878 4 0 rfl rfl (Or.inl ⟨rfl, rfl⟩) (by decide) rfl (by omega) hL rfl rfl rfl rfl rfl ?_
  refine z_arg (k := 5) (j := 10 * t + 5) (p1 := 1880) (p2 := 1882) (p3 := 1883) (p4 := 1884) (p5 := 1885) C S dL_law_1879 dL_law_1880 dL_law_1882 dL_law_1883 dL_law_1884 4 0 rfl rfl (Or.inl ⟨rfl, rfl⟩) (by decide) rfl (by omega) hL rfl rfl rfl rfl rfl ?_
  refine z_arg (k := 6) (j := 10 * t + 6) (p1 := 1886) (p2 := 1888) (p3 := 1890) (p4 := 1891) (p5 := 1892) C S dL_law_1885 dL_law_1886 dL_law_1888 dL_law_1890 dL_law_1891 4 0 rfl rfl (Or.inr ⟨rfl, rfl⟩) (by decide) rfl (by omega) hL rfl rfl rfl rfl rfl ?_
  refine z_arg (k := 7) (j := 10 * t + 7) (p1 := 1893) (p2 := 1895) (p3 := 1897) (p4 := 1898) (p5 := 1899) C S dL_law_1892 dL_law_1893 dL_law_1895 dL_law_1897 dL_law_1898 4 0 rfl rfl (Or.inr ⟨rfl, rfl⟩) (by decide) rfl (by omega) hL rfl rfl rfl rfl rfl ?_
  refine z_arg (k := 8) (j := 10 * t + 8) (p1 := 1900) (p2 := 1902) (p3 := 1904) (p4 := 1905) (p5 := 1906) C S dL_law_1899 dL_law_1900 dL_law_1902 dL_law_1904 dL_law_1905 4 0 rfl rfl (Or.inr ⟨rfl, rfl⟩) (by decide) rfl (by omega) hL rfl rfl rfl rfl rfl ?_
  refine z_aload_n (pc2 := 1907) C dL_law_1906 1 rfl rfl rfl ?_
  refine x_ret (rest := []) (st2 := [.int r.1]) (pc2 := 1910) (cu2 := cu + 8) (su2 := su + 48) (z_cH C hN kmL_proves rfl kk_L_184 (hL_proves hok hd10 hd17 (by rw [g1]; exact g2)) rfl rfl (Nat.le_of_ble_eq_true rfl) ⟨(Nat.le_of_ble_eq_true rfl), (Nat.le_of_ble_eq_true rfl)⟩ ⟨by show cu + 8 ≤ 601024; omega, by show su + 48 ≤ 7293034; omega⟩ dL_law_1907) rfl rfl rfl rfl ?_
  refine z_istore (pc2 := 1912) (lv2 := [(5, .int r.1), (4, .int (nI (10 * t))), (3, .ref (ad G 2017 0)), (2, .ref (ad G 11 0)), (1, .ref (ad G 10 0)), (0, .ref b)]) C dL_law_1910 (by decide) rfl rfl ?_
  refine z_aload_n (pc2 := 1913) C dL_law_1912 3 rfl rfl rfl ?_
  refine z_arg (k := 1) (j := 10 * t + 1) (p1 := 1914) (p2 := 1916) (p3 := 1917) (p4 := 1918) (p5 := 1919) C S dL_law_1913 dL_law_1914 dL_law_1916 dL_law_1917 dL_law_1918 5 1 rfl rfl (Or.inl ⟨rfl, rfl⟩) (by decide) rfl (by omega) hL rfl rfl rfl rfl rfl ?_
  refine z_arg (k := 2) (j := 10 * t + 2) (p1 := 1920) (p2 := 1922) (p3 := 1923) (p4 := 1924) (p5 := 1925) C S dL_law_1919 dL_law_1920 dL_law_1922 dL_law_1923 dL_law_1924 5 1 rfl rfl (Or.inl ⟨rfl, rfl⟩) (by decide) rfl (by omega) hL rfl rfl rfl rfl rfl ?_
  refine z_arg (k := 3) (j := 10 * t + 3) (p1 := 1926) (p2 := 1928) (p3 := 1929) (p4 := 1930) (p5 := 1931) C S dL_law_1925 dL_law_1926 dL_law_1928 dL_law_1929 dL_law_1930 5 1 rfl rfl (Or.inl ⟨rfl, rfl⟩) (by decide) rfl (by omega) hL rfl rfl rfl rfl rfl ?_
  refine z_arg (k := 4) (j := 10 * t + 4) (p1 := 1932) (p2 := 1934) (p3 := 1935) (p4 := 1936) (p5 := 1937) C S dL_law_1931 dL_law_1932 dL_law_1934 dL_law_1935 dL_law_1936 5 1 rfl rfl (Or.inl ⟨rfl, rfl⟩) (by decide) rfl (by omega) hL rfl rfl rfl rfl rfl ?_
  refine z_arg (k := 5) (j := 10 * t + 5) (p1 := 1938) (p2 := 1940) (p3 := 1941) (p4 := 1942) (p5 := 1943) C S dL_law_1937 dL_law_1938 dL_law_1940 dL_law_1941 dL_law_1942 5 1 rfl rfl (Or.inl ⟨rfl, rfl⟩) (by decide) rfl (by omega) hL rfl rfl rfl rfl rfl ?_
  refine z_arg (k := 6) (j := 10 * t + 6) (p1 := 1944) (p2 := 1946) (p3 := 1948) (p4 := 1949) (p5 := 1950) C S dL_law_1943 dL_law_1944 dL_law_1946 dL_law_1948 dL_law_1949 5 1 rfl rfl (Or.inr ⟨rfl, rfl⟩) (by decide) rfl (by omega) hL rfl rfl rfl rfl rfl ?_
  refine z_arg (k := 7) (j := 10 * t + 7) (p1 := 1951) (p2 := 1953) (p3 := 1955) (p4 := 1956) (p5 := 1957) C S dL_law_1950 dL_law_1951 dL_law_1953 dL_law_1955 dL_law_1956 5 1 rfl rfl (Or.inr ⟨rfl, rfl⟩) (by decide) rfl (by omega) hL rfl rfl rfl rfl rfl ?_
  refine z_arg (k := 8) (j := 10 * t + 8) (p1 := 1958) (p2 := 1960) (p3 := 1962) (p4 := 1963) (p5 := 1964) C S dL_law_1957 dL_law_1958 dL_law_1960 dL_law_1962 dL_law_1963 5 1 rfl rfl (Or.inr ⟨rfl, rfl⟩) (by decide) rfl (by omega) hL rfl rfl rfl rfl rfl ?_
  refine x_ret (rest := []) (st2 := [.int q.1]) (pc2 := 1967) (cu2 := cu + 8) (su2 := su + 48) (z_cV C hd11 (Nat.le_of_ble_eq_true rfl) kmX11_proves rfl kk_L_187 (tX11_proves hok hd11 g3) rfl rfl (Nat.le_of_ble_eq_true rfl) ⟨(Nat.le_of_ble_eq_true rfl), (Nat.le_of_ble_eq_true rfl)⟩ ⟨by show cu + 8 + 0 ≤ 601024; omega, by show su + 48 + 0 ≤ 7293034; omega⟩ dL_law_1964) rfl rfl rfl rfl ?_
  refine z_istore (pc2 := 1969) (lv2 := [(6, .int q.1), (5, .int r.1), (4, .int (nI (10 * t))), (3, .ref (ad G 2017 0)), (2, .ref (ad G 11 0)), (1, .ref (ad G 10 0)), (0, .ref b)]) C dL_law_1967 (by decide) rfl rfl ?_
  refine z_aload_n (pc2 := 1970) C dL_law_1969 4 rfl rfl rfl ?_
  refine x_ret (rest := []) (st2 := [.int r.1]) (pc2 := 1973) (cu2 := cu + 8) (su2 := su + 48) (z_cV C hd11 (Nat.le_of_ble_eq_true rfl) kmX11_thrown rfl kk_L_115 (tX11_thrown hok hd11 (r := r.1) (by rw [← g4]; rfl)) rfl rfl (Nat.le_of_ble_eq_true rfl) ⟨(Nat.le_of_ble_eq_true rfl), (Nat.le_of_ble_eq_true rfl)⟩ ⟨by show cu + 8 + 0 ≤ 601024; omega, by show su + 48 + 0 ≤ 7293034; omega⟩ dL_law_1970) rfl rfl rfl rfl ?_
  refine z_iload (pc2 := 1975) C dL_law_1973 1 rfl rfl ?_
  refine z_icmp_eq (tgt := 1980) (pc2 := 1978) C dL_law_1975 (by decide) rfl (fun _ => ?_) (fun h9 => absurd rfl h9)
  refine z_iload (pc2 := 1982) C dL_law_1980 1 rfl rfl ?_
  have fin : XW G B 7 2004 [(6, .int q.1), (5, .int r.1), (4, .int (nI (10 * t))), (3, .ref (ad G 2017 0)), (2, .ref (ad G 11 0)), (1, .ref (ad G 10 0)), (0, .ref b)] [] q.2 (cu + 8) (su + 48) := by
    refine z_goto (tgt := 2361) C dL_law_2004 (by decide) ?_
    exact z_sub (lv2 := [(4, .int (nI (10 * t))), (3, .ref (ad G 2017 0)), (2, .ref (ad G 11 0)), (1, .ref (ad G 10 0)), (0, .ref b)]) C [2, 3, 4, 5, 6] rfl (k q.2 g6)
  refine z_if_ne (tgt := 2004) (pc2 := 1985) C dL_law_1982 (by decide) rfl (fun _ => fin) (fun h8 => ?_)
  refine z_aload_n (pc2 := 1986) C dL_law_1985 3 rfl rfl rfl ?_
  refine z_iconst (pc2 := 1987) (v := 0) C dL_law_1986 rfl rfl ?_
  refine z_lald (pc2 := 1988) C hd17 dL_law_1987 rfl (nI_in (c := 0) (N := 1) (by decide) (by decide)) rfl ?_
  refine z_iload (pc2 := 1990) C dL_law_1988 0 rfl rfl ?_
  refine z_if_eq (tgt := 1997) (pc2 := 1993) C dL_law_1990 (by decide) rfl (fun h7 => ?_) (fun h7 => ?_)
  · refine z_lconst (pc2 := 1998) (v := 0) C dL_law_1997 rfl rfl ?_
    refine z_lcmp (pc2 := 1999) C dL_law_1998 rfl ?_
    exact z_if_eq (tgt := 2004) (pc2 := 2002) C dL_law_1999 (by decide) rfl (fun _ => fin) (fun h9 => absurd (cmp0 ((g5 h8).trans (if_pos h7))) h9)
  · refine z_lconst (pc2 := 1994) (v := 1) C dL_law_1993 rfl rfl ?_
    refine z_goto (tgt := 1998) C dL_law_1994 (by decide) ?_
    refine z_lcmp (pc2 := 1999) C dL_law_1998 rfl ?_
    exact z_if_eq (tgt := 2004) (pc2 := 2002) C dL_law_1999 (by decide) rfl (fun _ => fin) (fun h9 => absurd (cmp0 ((g5 h8).trans (if_neg h7))) h9)
set_option maxRecDepth 20000 in
theorem lc_prune {G : XG} (hok : XK G) {B : XB} (C : XZ G B cL_law RL room_1 7) (hN : XNB B) {b L : Nat} {xs : Nat → Int32} (S : XSc G b L xs B) (hd10 : dm G 10 0) (hd11 : dm G 11 0) (hd17 : dm G 2017 0) {t : Nat} (ht : 10 * t + 10 ≤ L) (hL : L ≤ 5120) {RG : XO → Prop} (ok : OK_prune RG) {Ω : XO} (hR : RG Ω) {cu su : Nat} (hcu : cu + 10 ≤ 601024) (hsu : su + 60 ≤ 7293034) (k : ∀ Ω', RG Ω' → XW G B 7 2361 [(4, .int (nI (10 * t))), (3, .ref (ad G 2017 0)), (2, .ref (ad G 11 0)), (1, .ref (ad G 10 0)), (0, .ref b)] [] Ω' (cu + 1) (su + 6)) : XW G B 7 2007 [(4, .int (nI (10 * t))), (3, .ref (ad G 2017 0)), (2, .ref (ad G 11 0)), (1, .ref (ad G 10 0)), (0, .ref b)] [] Ω cu su := by
  obtain ⟨r0, r, q, g1, g2, g3, g4, g5, g6⟩ := ok Ω (xs (10 * t + 1)) hR
  refine z_aload_n (pc2 := 2008) C dL_law_2007 3 rfl rfl rfl ?_
  refine z_arg (k := 1) (j := 10 * t + 1) (p1 := 2009) (p2 := 2011) (p3 := 2012) (p4 := 2013) (p5 := 2014) C S dL_law_2008 dL_law_2009 dL_law_2011 dL_law_2012 dL_law_2013 4 0 rfl rfl (Or.inl ⟨rfl, rfl⟩) (by decide) rfl (by omega) hL rfl rfl rfl rfl rfl ?_
  refine z_aload_n (pc2 := 2015) C dL_law_2014 1 rfl rfl rfl ?_
  refine x_ret (rest := []) (st2 := [.int r.1]) (pc2 := 2018) (cu2 := cu + 1) (su2 := su + 6) (z_cH C hN kmL_prune rfl kk_L_188 (hL_prune hok hd10 hd17 (by rw [g1]; exact g2)) rfl rfl (Nat.le_of_ble_eq_true rfl) ⟨(Nat.le_of_ble_eq_true rfl), (Nat.le_of_ble_eq_true rfl)⟩ ⟨by show cu + 1 ≤ 601024; omega, by show su + 6 ≤ 7293034; omega⟩ dL_law_2015) rfl rfl rfl rfl ?_
  refine z_istore (pc2 := 2020) (lv2 := [(5, .int r.1), (4, .int (nI (10 * t))), (3, .ref (ad G 2017 0)), (2, .ref (ad G 11 0)), (1, .ref (ad G 10 0)), (0, .ref b)]) C dL_law_2018 (by decide) rfl rfl ?_
  refine z_aload_n (pc2 := 2021) C dL_law_2020 3 rfl rfl rfl ?_
  refine z_arg (k := 1) (j := 10 * t + 1) (p1 := 2022) (p2 := 2024) (p3 := 2025) (p4 := 2026) (p5 := 2027) C S dL_law_2021 dL_law_2022 dL_law_2024 dL_law_2025 dL_law_2026 5 1 rfl rfl (Or.inl ⟨rfl, rfl⟩) (by decide) rfl (by omega) hL rfl rfl rfl rfl rfl ?_
  refine x_ret (rest := []) (st2 := [.int q.1]) (pc2 := 2030) (cu2 := cu + 1) (su2 := su + 6) (z_cV C hd11 (Nat.le_of_ble_eq_true rfl) kmX11_prune rfl kk_L_190 (tX11_prune hok hd11 g3) rfl rfl (Nat.le_of_ble_eq_true rfl) ⟨(Nat.le_of_ble_eq_true rfl), (Nat.le_of_ble_eq_true rfl)⟩ ⟨by show cu + 1 + 0 ≤ 601024; omega, by show su + 6 + 0 ≤ 7293034; omega⟩ dL_law_2027) rfl rfl rfl rfl ?_
  refine z_istore (pc2 := 2032) (lv2 := [(6, .int q.1), (5, .int r.1), (4, .int (nI (10 * t))), (3, .ref (ad G 2017 0)), (2, .ref (ad G 11 0)), (1, .ref (ad G 10 0)), (0, .ref b)]) C dL_law_2030 (by decide) rfl rfl ?_
  refine z_aload_n (pc2 := 2033) C dL_law_2032 4 rfl rfl rfl ?_
  refine x_ret (rest := []) (st2 := [.int r.1]) (pc2 := 2036) (cu2 := cu + 1) (su2 := su + 6) (z_cV C hd11 (Nat.le_of_ble_eq_true rfl) kmX11_thrown rfl kk_L_115 (tX11_thrown hok hd11 (r := r.1) (by rw [← g4]; rfl)) rfl rfl (Nat.le_of_ble_eq_true rfl) ⟨(Nat.le_of_ble_eq_true rfl), (Nat.le_of_ble_eq_true rfl)⟩ ⟨by show cu + 1 + 0 ≤ 601024; omega, by show su + 6 + 0 ≤ 7293034; omega⟩ dL_law_2033) rfl rfl rfl rfl ?_
  refine z_iload (pc2 := 2038) C dL_law_2036 1 rfl rfl ?_
  refine z_icmp_eq (tgt := 2043) (pc2 := 2041) C dL_law_2038 (by decide) rfl (fun _ => ?_) (fun h9 => absurd rfl h9)
  refine z_iload (pc2 := 2045) C dL_law_2043 1 rfl rfl ?_
  have fin : XW G B 7 2060 [(6, .int q.1), (5, .int r.1), (4, .int (nI (10 * t))), (3, .ref (ad G 2017 0)), (2, .ref (ad G 11 0)), (1, .ref (ad G 10 0)), (0, .ref b)] [] q.2 (cu + 1) (su + 6) := by
    refine z_goto (tgt := 2361) C dL_law_2060 (by decide) ?_
    exact z_sub (lv2 := [(4, .int (nI (10 * t))), (3, .ref (ad G 2017 0)), (2, .ref (ad G 11 0)), (1, .ref (ad G 10 0)), (0, .ref b)]) C [2, 3, 4, 5, 6] rfl (k q.2 g6)
  refine z_if_ne (tgt := 2060) (pc2 := 2048) C dL_law_2045 (by decide) rfl (fun _ => fin) (fun h8 => ?_)
  refine z_aload_n (pc2 := 2049) C dL_law_2048 3 rfl rfl rfl ?_
  refine z_iconst (pc2 := 2050) (v := 0) C dL_law_2049 rfl rfl ?_
  refine z_lald (pc2 := 2051) C hd17 dL_law_2050 rfl (nI_in (c := 0) (N := 1) (by decide) (by decide)) rfl ?_
  refine z_iload (pc2 := 2053) C dL_law_2051 0 rfl rfl ?_
  refine z_i2l (pc2 := 2054) C dL_law_2053 rfl ?_
  refine z_lcmp (pc2 := 2055) C dL_law_2054 rfl ?_
  exact z_if_eq (tgt := 2060) (pc2 := 2058) C dL_law_2055 (by decide) rfl (fun _ => fin) (fun h9 => absurd (cmp0 (g5 h8)) h9)
set_option maxRecDepth 20000 in
theorem lc_vote {G : XG} (hok : XK G) {B : XB} (C : XZ G B cL_law RL room_1 7) (hN : XNB B) {b L : Nat} {xs : Nat → Int32} (S : XSc G b L xs B) (hd10 : dm G 10 0) (hd11 : dm G 11 0) (hd17 : dm G 2017 0) {t : Nat} (ht : 10 * t + 10 ≤ L) (hL : L ≤ 5120) {RG : XO → Prop} (ok : OK_vote RG) {Ω : XO} (hR : RG Ω) {cu su : Nat} (hcu : cu + 10 ≤ 601024) (hsu : su + 60 ≤ 7293034) (k : ∀ Ω', RG Ω' → XW G B 7 2361 [(4, .int (nI (10 * t))), (3, .ref (ad G 2017 0)), (2, .ref (ad G 11 0)), (1, .ref (ad G 10 0)), (0, .ref b)] [] Ω' (cu + 8) (su + 48)) : XW G B 7 2063 [(4, .int (nI (10 * t))), (3, .ref (ad G 2017 0)), (2, .ref (ad G 11 0)), (1, .ref (ad G 10 0)), (0, .ref b)] [] Ω cu su := by
  obtain ⟨r0, r, q, g1, g2, g3, g4, g5, g6⟩ := ok Ω (xs (10 * t + 1)) (xs (10 * t + 2)) (xs (10 * t + 3)) (xs (10 * t + 4)) hR
  refine z_aload_n (pc2 := 2064) C dL_law_2063 3 rfl rfl rfl ?_
  refine z_arg (k := 1) (j := 10 * t + 1) (p1 := 2065) (p2 := 2067) (p3 := 2068) (p4 := 2069) (p5 := 2070) C S dL_law_2064 dL_law_2065 dL_law_2067 dL_law_2068 dL_law_2069 4 0 rfl rfl (Or.inl ⟨rfl, rfl⟩) (by decide) rfl (by omega) hL rfl rfl rfl rfl rfl ?_
  refine z_arg (k := 2) (j := 10 * t + 2) (p1 := 2071) (p2 := 2073) (p3 := 2074) (p4 := 2075) (p5 := 2076) C S dL_law_2070 dL_law_2071 dL_law_2073 dL_law_2074 dL_law_2075 4 0 rfl rfl (Or.inl ⟨rfl, rfl⟩) (by decide) rfl (by omega) hL rfl rfl rfl rfl rfl ?_
  refine z_arg (k := 3) (j := 10 * t + 3) (p1 := 2077) (p2 := 2079) (p3 := 2080) (p4 := 2081) (p5 := 2082) C S dL_law_2076 dL_law_2077 dL_law_2079 dL_law_2080 dL_law_2081 4 0 rfl rfl (Or.inl ⟨rfl, rfl⟩) (by decide) rfl (by omega) hL rfl rfl rfl rfl rfl ?_
  refine z_arg (k := 4) (j := 10 * t + 4) (p1 := 2083) (p2 := 2085) (p3 := 2086) (p4 := 2087) (p5 := 2088) C S dL_law_2082 dL_law_2083 dL_law_2085 dL_law_2086 dL_law_2087 4 0 rfl rfl (Or.inl ⟨rfl, rfl⟩) (by decide) rfl (by omega) hL rfl rfl rfl rfl rfl ?_
  refine z_aload_n (pc2 := 2089) C dL_law_2088 1 rfl rfl rfl ?_
  refine x_ret (rest := []) (st2 := [.int r.1]) (pc2 := 2092) (cu2 := cu + 8) (su2 := su + 48) (z_cH C hN kmL_vote rfl kk_L_191 (hL_vote hok hd10 hd17 g1 g2) rfl rfl (Nat.le_of_ble_eq_true rfl) ⟨(Nat.le_of_ble_eq_true rfl), (Nat.le_of_ble_eq_true rfl)⟩ ⟨by show cu + 8 ≤ 601024; omega, by show su + 48 ≤ 7293034; omega⟩ dL_law_2089) rfl rfl rfl rfl ?_
  refine z_istore (pc2 := 2094) (lv2 := [(5, .int r.1), (4, .int (nI (10 * t))), (3, .ref (ad G 2017 0)), (2, .ref (ad G 11 0)), (1, .ref (ad G 10 0)), (0, .ref b)]) C dL_law_2092 (by decide) rfl rfl ?_
  refine z_aload_n (pc2 := 2095) C dL_law_2094 3 rfl rfl rfl ?_
  refine z_arg (k := 1) (j := 10 * t + 1) (p1 := 2096) (p2 := 2098) (p3 := 2099) (p4 := 2100) (p5 := 2101) C S dL_law_2095 dL_law_2096 dL_law_2098 dL_law_2099 dL_law_2100 5 1 rfl rfl (Or.inl ⟨rfl, rfl⟩) (by decide) rfl (by omega) hL rfl rfl rfl rfl rfl ?_
  refine z_arg (k := 2) (j := 10 * t + 2) (p1 := 2102) (p2 := 2104) (p3 := 2105) (p4 := 2106) (p5 := 2107) C S dL_law_2101 dL_law_2102 dL_law_2104 dL_law_2105 dL_law_2106 5 1 rfl rfl (Or.inl ⟨rfl, rfl⟩) (by decide) rfl (by omega) hL rfl rfl rfl rfl rfl ?_
  refine z_arg (k := 3) (j := 10 * t + 3) (p1 := 2108) (p2 := 2110) (p3 := 2111) (p4 := 2112) (p5 := 2113) C S dL_law_2107 dL_law_2108 dL_law_2110 dL_law_2111 dL_law_2112 5 1 rfl rfl (Or.inl ⟨rfl, rfl⟩) (by decide) rfl (by omega) hL rfl rfl rfl rfl rfl ?_
  refine z_arg (k := 4) (j := 10 * t + 4) (p1 := 2114) (p2 := 2116) (p3 := 2117) (p4 := 2118) (p5 := 2119) C S dL_law_2113 dL_law_2114 dL_law_2116 dL_law_2117 dL_law_2118 5 1 rfl rfl (Or.inl ⟨rfl, rfl⟩) (by decide) rfl (by omega) hL rfl rfl rfl rfl rfl ?_
  refine x_ret (rest := []) (st2 := [.int q.1]) (pc2 := 2122) (cu2 := cu + 8) (su2 := su + 48) (z_cV C hd11 (Nat.le_of_ble_eq_true rfl) kmX11_vote rfl kk_L_193 (tX11_vote hok hd11 g3) rfl rfl (Nat.le_of_ble_eq_true rfl) ⟨(Nat.le_of_ble_eq_true rfl), (Nat.le_of_ble_eq_true rfl)⟩ ⟨by show cu + 8 + 0 ≤ 601024; omega, by show su + 48 + 0 ≤ 7293034; omega⟩ dL_law_2119) rfl rfl rfl rfl ?_
  refine z_istore (pc2 := 2124) (lv2 := [(6, .int q.1), (5, .int r.1), (4, .int (nI (10 * t))), (3, .ref (ad G 2017 0)), (2, .ref (ad G 11 0)), (1, .ref (ad G 10 0)), (0, .ref b)]) C dL_law_2122 (by decide) rfl rfl ?_
  refine z_aload_n (pc2 := 2125) C dL_law_2124 4 rfl rfl rfl ?_
  refine x_ret (rest := []) (st2 := [.int r.1]) (pc2 := 2128) (cu2 := cu + 8) (su2 := su + 48) (z_cV C hd11 (Nat.le_of_ble_eq_true rfl) kmX11_thrown rfl kk_L_115 (tX11_thrown hok hd11 (r := r.1) (by rw [← g4]; rfl)) rfl rfl (Nat.le_of_ble_eq_true rfl) ⟨(Nat.le_of_ble_eq_true rfl), (Nat.le_of_ble_eq_true rfl)⟩ ⟨by show cu + 8 + 0 ≤ 601024; omega, by show su + 48 + 0 ≤ 7293034; omega⟩ dL_law_2125) rfl rfl rfl rfl ?_
  refine z_iload (pc2 := 2130) C dL_law_2128 1 rfl rfl ?_
  refine z_icmp_eq (tgt := 2135) (pc2 := 2133) C dL_law_2130 (by decide) rfl (fun _ => ?_) (fun h9 => absurd rfl h9)
  refine z_iload (pc2 := 2137) C dL_law_2135 1 rfl rfl ?_
  have fin : XW G B 7 2159 [(6, .int q.1), (5, .int r.1), (4, .int (nI (10 * t))), (3, .ref (ad G 2017 0)), (2, .ref (ad G 11 0)), (1, .ref (ad G 10 0)), (0, .ref b)] [] q.2 (cu + 8) (su + 48) := by
    refine z_goto (tgt := 2361) C dL_law_2159 (by decide) ?_
    exact z_sub (lv2 := [(4, .int (nI (10 * t))), (3, .ref (ad G 2017 0)), (2, .ref (ad G 11 0)), (1, .ref (ad G 10 0)), (0, .ref b)]) C [2, 3, 4, 5, 6] rfl (k q.2 g6)
  refine z_if_ne (tgt := 2159) (pc2 := 2140) C dL_law_2137 (by decide) rfl (fun _ => fin) (fun h8 => ?_)
  refine z_aload_n (pc2 := 2141) C dL_law_2140 3 rfl rfl rfl ?_
  refine z_iconst (pc2 := 2142) (v := 0) C dL_law_2141 rfl rfl ?_
  refine z_lald (pc2 := 2143) C hd17 dL_law_2142 rfl (nI_in (c := 0) (N := 1) (by decide) (by decide)) rfl ?_
  refine z_iload (pc2 := 2145) C dL_law_2143 0 rfl rfl ?_
  refine z_if_eq (tgt := 2152) (pc2 := 2148) C dL_law_2145 (by decide) rfl (fun h7 => ?_) (fun h7 => ?_)
  · refine z_lconst (pc2 := 2153) (v := 0) C dL_law_2152 rfl rfl ?_
    refine z_lcmp (pc2 := 2154) C dL_law_2153 rfl ?_
    exact z_if_eq (tgt := 2159) (pc2 := 2157) C dL_law_2154 (by decide) rfl (fun _ => fin) (fun h9 => absurd (cmp0 ((g5 h8).trans (if_pos h7))) h9)
  · refine z_lconst (pc2 := 2149) (v := 1) C dL_law_2148 rfl rfl ?_
    refine z_goto (tgt := 2153) C dL_law_2149 (by decide) ?_
    refine z_lcmp (pc2 := 2154) C dL_law_2153 rfl ?_
    exact z_if_eq (tgt := 2159) (pc2 := 2157) C dL_law_2154 (by decide) rfl (fun _ => fin) (fun h9 => absurd (cmp0 ((g5 h8).trans (if_neg h7))) h9)
set_option maxRecDepth 20000 in
theorem lc_isJustified {G : XG} (hok : XK G) {B : XB} (C : XZ G B cL_law RL room_1 7) (hN : XNB B) {b L : Nat} {xs : Nat → Int32} (S : XSc G b L xs B) (hd10 : dm G 10 0) (hd11 : dm G 11 0) (hd17 : dm G 2017 0) {t : Nat} (ht : 10 * t + 10 ≤ L) (hL : L ≤ 5120) {RG : XO → Prop} (ok : OK_isJustified RG) {Ω : XO} (hR : RG Ω) {cu su : Nat} (hcu : cu + 10 ≤ 601024) (hsu : su + 60 ≤ 7293034) (k : ∀ Ω', RG Ω' → XW G B 7 2361 [(4, .int (nI (10 * t))), (3, .ref (ad G 2017 0)), (2, .ref (ad G 11 0)), (1, .ref (ad G 10 0)), (0, .ref b)] [] Ω' (cu + 2) (su + 12)) : XW G B 7 2162 [(4, .int (nI (10 * t))), (3, .ref (ad G 2017 0)), (2, .ref (ad G 11 0)), (1, .ref (ad G 10 0)), (0, .ref b)] [] Ω cu su := by
  obtain ⟨r0, r, q, g1, g2, g3, g4, g5, g6⟩ := ok Ω (xs (10 * t + 1)) (xs (10 * t + 2)) hR
  refine z_aload_n (pc2 := 2163) C dL_law_2162 3 rfl rfl rfl ?_
  refine z_arg (k := 1) (j := 10 * t + 1) (p1 := 2164) (p2 := 2166) (p3 := 2167) (p4 := 2168) (p5 := 2169) C S dL_law_2163 dL_law_2164 dL_law_2166 dL_law_2167 dL_law_2168 4 0 rfl rfl (Or.inl ⟨rfl, rfl⟩) (by decide) rfl (by omega) hL rfl rfl rfl rfl rfl ?_
  refine z_arg (k := 2) (j := 10 * t + 2) (p1 := 2170) (p2 := 2172) (p3 := 2173) (p4 := 2174) (p5 := 2175) C S dL_law_2169 dL_law_2170 dL_law_2172 dL_law_2173 dL_law_2174 4 0 rfl rfl (Or.inl ⟨rfl, rfl⟩) (by decide) rfl (by omega) hL rfl rfl rfl rfl rfl ?_
  refine z_aload_n (pc2 := 2176) C dL_law_2175 1 rfl rfl rfl ?_
  refine x_ret (rest := []) (st2 := [.int r.1]) (pc2 := 2179) (cu2 := cu + 2) (su2 := su + 12) (z_cH C hN kmL_isJustified rfl kk_L_194 (hL_isJustified hok hd10 hd17 g1 g2) rfl rfl (Nat.le_of_ble_eq_true rfl) ⟨(Nat.le_of_ble_eq_true rfl), (Nat.le_of_ble_eq_true rfl)⟩ ⟨by show cu + 2 ≤ 601024; omega, by show su + 12 ≤ 7293034; omega⟩ dL_law_2176) rfl rfl rfl rfl ?_
  refine z_istore (pc2 := 2181) (lv2 := [(5, .int r.1), (4, .int (nI (10 * t))), (3, .ref (ad G 2017 0)), (2, .ref (ad G 11 0)), (1, .ref (ad G 10 0)), (0, .ref b)]) C dL_law_2179 (by decide) rfl rfl ?_
  refine z_aload_n (pc2 := 2182) C dL_law_2181 3 rfl rfl rfl ?_
  refine z_arg (k := 1) (j := 10 * t + 1) (p1 := 2183) (p2 := 2185) (p3 := 2186) (p4 := 2187) (p5 := 2188) C S dL_law_2182 dL_law_2183 dL_law_2185 dL_law_2186 dL_law_2187 5 1 rfl rfl (Or.inl ⟨rfl, rfl⟩) (by decide) rfl (by omega) hL rfl rfl rfl rfl rfl ?_
  refine z_arg (k := 2) (j := 10 * t + 2) (p1 := 2189) (p2 := 2191) (p3 := 2192) (p4 := 2193) (p5 := 2194) C S dL_law_2188 dL_law_2189 dL_law_2191 dL_law_2192 dL_law_2193 5 1 rfl rfl (Or.inl ⟨rfl, rfl⟩) (by decide) rfl (by omega) hL rfl rfl rfl rfl rfl ?_
  refine x_ret (rest := []) (st2 := [.int q.1]) (pc2 := 2197) (cu2 := cu + 2) (su2 := su + 12) (z_cV C hd11 (Nat.le_of_ble_eq_true rfl) kmX11_isJustified rfl kk_L_196 (tX11_isJustified hok hd11 g3) rfl rfl (Nat.le_of_ble_eq_true rfl) ⟨(Nat.le_of_ble_eq_true rfl), (Nat.le_of_ble_eq_true rfl)⟩ ⟨by show cu + 2 + 0 ≤ 601024; omega, by show su + 12 + 0 ≤ 7293034; omega⟩ dL_law_2194) rfl rfl rfl rfl ?_
  refine z_istore (pc2 := 2199) (lv2 := [(6, .int q.1), (5, .int r.1), (4, .int (nI (10 * t))), (3, .ref (ad G 2017 0)), (2, .ref (ad G 11 0)), (1, .ref (ad G 10 0)), (0, .ref b)]) C dL_law_2197 (by decide) rfl rfl ?_
  refine z_aload_n (pc2 := 2200) C dL_law_2199 4 rfl rfl rfl ?_
  refine x_ret (rest := []) (st2 := [.int r.1]) (pc2 := 2203) (cu2 := cu + 2) (su2 := su + 12) (z_cV C hd11 (Nat.le_of_ble_eq_true rfl) kmX11_thrown rfl kk_L_115 (tX11_thrown hok hd11 (r := r.1) (by rw [← g4]; rfl)) rfl rfl (Nat.le_of_ble_eq_true rfl) ⟨(Nat.le_of_ble_eq_true rfl), (Nat.le_of_ble_eq_true rfl)⟩ ⟨by show cu + 2 + 0 ≤ 601024; omega, by show su + 12 + 0 ≤ 7293034; omega⟩ dL_law_2200) rfl rfl rfl rfl ?_
  refine z_iload (pc2 := 2205) C dL_law_2203 1 rfl rfl ?_
  refine z_icmp_eq (tgt := 2210) (pc2 := 2208) C dL_law_2205 (by decide) rfl (fun _ => ?_) (fun h9 => absurd rfl h9)
  refine z_iload (pc2 := 2212) C dL_law_2210 1 rfl rfl ?_
  have fin : XW G B 7 2234 [(6, .int q.1), (5, .int r.1), (4, .int (nI (10 * t))), (3, .ref (ad G 2017 0)), (2, .ref (ad G 11 0)), (1, .ref (ad G 10 0)), (0, .ref b)] [] q.2 (cu + 2) (su + 12) := by
    refine z_goto (tgt := 2361) C dL_law_2234 (by decide) ?_
    exact z_sub (lv2 := [(4, .int (nI (10 * t))), (3, .ref (ad G 2017 0)), (2, .ref (ad G 11 0)), (1, .ref (ad G 10 0)), (0, .ref b)]) C [2, 3, 4, 5, 6] rfl (k q.2 g6)
  refine z_if_ne (tgt := 2234) (pc2 := 2215) C dL_law_2212 (by decide) rfl (fun _ => fin) (fun h8 => ?_)
  refine z_aload_n (pc2 := 2216) C dL_law_2215 3 rfl rfl rfl ?_
  refine z_iconst (pc2 := 2217) (v := 0) C dL_law_2216 rfl rfl ?_
  refine z_lald (pc2 := 2218) C hd17 dL_law_2217 rfl (nI_in (c := 0) (N := 1) (by decide) (by decide)) rfl ?_
  refine z_iload (pc2 := 2220) C dL_law_2218 0 rfl rfl ?_
  refine z_if_eq (tgt := 2227) (pc2 := 2223) C dL_law_2220 (by decide) rfl (fun h7 => ?_) (fun h7 => ?_)
  · refine z_lconst (pc2 := 2228) (v := 0) C dL_law_2227 rfl rfl ?_
    refine z_lcmp (pc2 := 2229) C dL_law_2228 rfl ?_
    exact z_if_eq (tgt := 2234) (pc2 := 2232) C dL_law_2229 (by decide) rfl (fun _ => fin) (fun h9 => absurd (cmp0 ((g5 h8).trans (if_pos h7))) h9)
  · refine z_lconst (pc2 := 2224) (v := 1) C dL_law_2223 rfl rfl ?_
    refine z_goto (tgt := 2228) C dL_law_2224 (by decide) ?_
    refine z_lcmp (pc2 := 2229) C dL_law_2228 rfl ?_
    exact z_if_eq (tgt := 2234) (pc2 := 2232) C dL_law_2229 (by decide) rfl (fun _ => fin) (fun h9 => absurd (cmp0 ((g5 h8).trans (if_neg h7))) h9)
set_option maxRecDepth 20000 in
theorem lc_lastFinal {G : XG} (hok : XK G) {B : XB} (C : XZ G B cL_law RL room_1 7) (hN : XNB B) {b L : Nat} {xs : Nat → Int32} (S : XSc G b L xs B) (hd10 : dm G 10 0) (hd11 : dm G 11 0) (hd17 : dm G 2017 0) {t : Nat} (ht : 10 * t + 10 ≤ L) (hL : L ≤ 5120) {RG : XO → Prop} (ok : OK_lastFinal RG) {Ω : XO} (hR : RG Ω) {cu su : Nat} (hcu : cu + 10 ≤ 601024) (hsu : su + 60 ≤ 7293034) (k : ∀ Ω', RG Ω' → XW G B 7 2361 [(4, .int (nI (10 * t))), (3, .ref (ad G 2017 0)), (2, .ref (ad G 11 0)), (1, .ref (ad G 10 0)), (0, .ref b)] [] Ω' (cu + 1) (su + 6)) : XW G B 7 2237 [(4, .int (nI (10 * t))), (3, .ref (ad G 2017 0)), (2, .ref (ad G 11 0)), (1, .ref (ad G 10 0)), (0, .ref b)] [] Ω cu su := by
  obtain ⟨r0, r, q, g1, g2, g3, g4, g5, g6⟩ := ok Ω (xs (10 * t + 1)) hR
  refine z_aload_n (pc2 := 2238) C dL_law_2237 3 rfl rfl rfl ?_
  refine z_arg (k := 1) (j := 10 * t + 1) (p1 := 2239) (p2 := 2241) (p3 := 2242) (p4 := 2243) (p5 := 2244) C S dL_law_2238 dL_law_2239 dL_law_2241 dL_law_2242 dL_law_2243 4 0 rfl rfl (Or.inl ⟨rfl, rfl⟩) (by decide) rfl (by omega) hL rfl rfl rfl rfl rfl ?_
  refine z_aload_n (pc2 := 2245) C dL_law_2244 1 rfl rfl rfl ?_
  refine x_ret (rest := []) (st2 := [.int r.1]) (pc2 := 2248) (cu2 := cu + 1) (su2 := su + 6) (z_cH C hN kmL_lastFinal rfl kk_L_197 (hL_lastFinal hok hd10 hd17 (by rw [g1]; exact g2)) rfl rfl (Nat.le_of_ble_eq_true rfl) ⟨(Nat.le_of_ble_eq_true rfl), (Nat.le_of_ble_eq_true rfl)⟩ ⟨by show cu + 1 ≤ 601024; omega, by show su + 6 ≤ 7293034; omega⟩ dL_law_2245) rfl rfl rfl rfl ?_
  refine z_istore (pc2 := 2250) (lv2 := [(5, .int r.1), (4, .int (nI (10 * t))), (3, .ref (ad G 2017 0)), (2, .ref (ad G 11 0)), (1, .ref (ad G 10 0)), (0, .ref b)]) C dL_law_2248 (by decide) rfl rfl ?_
  refine z_aload_n (pc2 := 2251) C dL_law_2250 3 rfl rfl rfl ?_
  refine z_arg (k := 1) (j := 10 * t + 1) (p1 := 2252) (p2 := 2254) (p3 := 2255) (p4 := 2256) (p5 := 2257) C S dL_law_2251 dL_law_2252 dL_law_2254 dL_law_2255 dL_law_2256 5 1 rfl rfl (Or.inl ⟨rfl, rfl⟩) (by decide) rfl (by omega) hL rfl rfl rfl rfl rfl ?_
  refine x_ret (rest := []) (st2 := [.int q.1]) (pc2 := 2260) (cu2 := cu + 1) (su2 := su + 6) (z_cV C hd11 (Nat.le_of_ble_eq_true rfl) kmX11_lastFinal rfl kk_L_199 (tX11_lastFinal hok hd11 g3) rfl rfl (Nat.le_of_ble_eq_true rfl) ⟨(Nat.le_of_ble_eq_true rfl), (Nat.le_of_ble_eq_true rfl)⟩ ⟨by show cu + 1 + 0 ≤ 601024; omega, by show su + 6 + 0 ≤ 7293034; omega⟩ dL_law_2257) rfl rfl rfl rfl ?_
  refine z_istore (pc2 := 2262) (lv2 := [(6, .int q.1), (5, .int r.1), (4, .int (nI (10 * t))), (3, .ref (ad G 2017 0)), (2, .ref (ad G 11 0)), (1, .ref (ad G 10 0)), (0, .ref b)]) C dL_law_2260 (by decide) rfl rfl ?_
  refine z_aload_n (pc2 := 2263) C dL_law_2262 4 rfl rfl rfl ?_
  refine x_ret (rest := []) (st2 := [.int r.1]) (pc2 := 2266) (cu2 := cu + 1) (su2 := su + 6) (z_cV C hd11 (Nat.le_of_ble_eq_true rfl) kmX11_thrown rfl kk_L_115 (tX11_thrown hok hd11 (r := r.1) (by rw [← g4]; rfl)) rfl rfl (Nat.le_of_ble_eq_true rfl) ⟨(Nat.le_of_ble_eq_true rfl), (Nat.le_of_ble_eq_true rfl)⟩ ⟨by show cu + 1 + 0 ≤ 601024; omega, by show su + 6 + 0 ≤ 7293034; omega⟩ dL_law_2263) rfl rfl rfl rfl ?_
  refine z_iload (pc2 := 2268) C dL_law_2266 1 rfl rfl ?_
  refine z_icmp_eq (tgt := 2273) (pc2 := 2271) C dL_law_2268 (by decide) rfl (fun _ => ?_) (fun h9 => absurd rfl h9)
  refine z_iload (pc2 := 2275) C dL_law_2273 1 rfl rfl ?_
  have fin : XW G B 7 2290 [(6, .int q.1), (5, .int r.1), (4, .int (nI (10 * t))), (3, .ref (ad G 2017 0)), (2, .ref (ad G 11 0)), (1, .ref (ad G 10 0)), (0, .ref b)] [] q.2 (cu + 1) (su + 6) := by
    refine z_goto (tgt := 2361) C dL_law_2290 (by decide) ?_
    exact z_sub (lv2 := [(4, .int (nI (10 * t))), (3, .ref (ad G 2017 0)), (2, .ref (ad G 11 0)), (1, .ref (ad G 10 0)), (0, .ref b)]) C [2, 3, 4, 5, 6] rfl (k q.2 g6)
  refine z_if_ne (tgt := 2290) (pc2 := 2278) C dL_law_2275 (by decide) rfl (fun _ => fin) (fun h8 => ?_)
  refine z_aload_n (pc2 := 2279) C dL_law_2278 3 rfl rfl rfl ?_
  refine z_iconst (pc2 := 2280) (v := 0) C dL_law_2279 rfl rfl ?_
  refine z_lald (pc2 := 2281) C hd17 dL_law_2280 rfl (nI_in (c := 0) (N := 1) (by decide) (by decide)) rfl ?_
  refine z_iload (pc2 := 2283) C dL_law_2281 0 rfl rfl ?_
  refine z_i2l (pc2 := 2284) C dL_law_2283 rfl ?_
  refine z_lcmp (pc2 := 2285) C dL_law_2284 rfl ?_
  exact z_if_eq (tgt := 2290) (pc2 := 2288) C dL_law_2285 (by decide) rfl (fun _ => fin) (fun h9 => absurd (cmp0 (g5 h8)) h9)
set_option maxRecDepth 20000 in
theorem lc_stake {G : XG} (hok : XK G) {B : XB} (C : XZ G B cL_law RL room_1 7) (hN : XNB B) {b L : Nat} {xs : Nat → Int32} (S : XSc G b L xs B) (hd10 : dm G 10 0) (hd11 : dm G 11 0) (hd17 : dm G 2017 0) {t : Nat} (ht : 10 * t + 10 ≤ L) (hL : L ≤ 5120) {RG : XO → Prop} (ok : OK_stake RG) {Ω : XO} (hR : RG Ω) {cu su : Nat} (hcu : cu + 10 ≤ 601024) (hsu : su + 60 ≤ 7293034) (k : ∀ Ω', RG Ω' → XW G B 7 2361 [(4, .int (nI (10 * t))), (3, .ref (ad G 2017 0)), (2, .ref (ad G 11 0)), (1, .ref (ad G 10 0)), (0, .ref b)] [] Ω' (cu + 2) (su + 12)) : XW G B 7 2293 [(4, .int (nI (10 * t))), (3, .ref (ad G 2017 0)), (2, .ref (ad G 11 0)), (1, .ref (ad G 10 0)), (0, .ref b)] [] Ω cu su := by
  obtain ⟨r0, r, q, g1, g2, g3, g4, g5, g6⟩ := ok Ω (xs (10 * t + 1)) (xs (10 * t + 2)) hR
  refine z_aload_n (pc2 := 2294) C dL_law_2293 3 rfl rfl rfl ?_
  refine z_arg (k := 1) (j := 10 * t + 1) (p1 := 2295) (p2 := 2297) (p3 := 2298) (p4 := 2299) (p5 := 2300) C S dL_law_2294 dL_law_2295 dL_law_2297 dL_law_2298 dL_law_2299 4 0 rfl rfl (Or.inl ⟨rfl, rfl⟩) (by decide) rfl (by omega) hL rfl rfl rfl rfl rfl ?_
  refine z_arg (k := 2) (j := 10 * t + 2) (p1 := 2301) (p2 := 2303) (p3 := 2304) (p4 := 2305) (p5 := 2306) C S dL_law_2300 dL_law_2301 dL_law_2303 dL_law_2304 dL_law_2305 4 0 rfl rfl (Or.inl ⟨rfl, rfl⟩) (by decide) rfl (by omega) hL rfl rfl rfl rfl rfl ?_
  refine z_aload_n (pc2 := 2307) C dL_law_2306 1 rfl rfl rfl ?_
  refine x_ret (rest := []) (st2 := [.int r.1]) (pc2 := 2310) (cu2 := cu + 2) (su2 := su + 12) (z_cH C hN kmL_stake rfl kk_L_200 (hL_stake hok hd10 hd17 (by rw [g1]; exact g2)) rfl rfl (Nat.le_of_ble_eq_true rfl) ⟨(Nat.le_of_ble_eq_true rfl), (Nat.le_of_ble_eq_true rfl)⟩ ⟨by show cu + 2 ≤ 601024; omega, by show su + 12 ≤ 7293034; omega⟩ dL_law_2307) rfl rfl rfl rfl ?_
  refine z_istore (pc2 := 2312) (lv2 := [(5, .int r.1), (4, .int (nI (10 * t))), (3, .ref (ad G 2017 0)), (2, .ref (ad G 11 0)), (1, .ref (ad G 10 0)), (0, .ref b)]) C dL_law_2310 (by decide) rfl rfl ?_
  refine z_aload_n (pc2 := 2313) C dL_law_2312 3 rfl rfl rfl ?_
  refine z_arg (k := 1) (j := 10 * t + 1) (p1 := 2314) (p2 := 2316) (p3 := 2317) (p4 := 2318) (p5 := 2319) C S dL_law_2313 dL_law_2314 dL_law_2316 dL_law_2317 dL_law_2318 5 1 rfl rfl (Or.inl ⟨rfl, rfl⟩) (by decide) rfl (by omega) hL rfl rfl rfl rfl rfl ?_
  refine z_arg (k := 2) (j := 10 * t + 2) (p1 := 2320) (p2 := 2322) (p3 := 2323) (p4 := 2324) (p5 := 2325) C S dL_law_2319 dL_law_2320 dL_law_2322 dL_law_2323 dL_law_2324 5 1 rfl rfl (Or.inl ⟨rfl, rfl⟩) (by decide) rfl (by omega) hL rfl rfl rfl rfl rfl ?_
  refine x_ret (rest := []) (st2 := [.int q.1]) (pc2 := 2328) (cu2 := cu + 2) (su2 := su + 12) (z_cV C hd11 (Nat.le_of_ble_eq_true rfl) kmX11_stake rfl kk_L_202 (tX11_stake hok hd11 g3) rfl rfl (Nat.le_of_ble_eq_true rfl) ⟨(Nat.le_of_ble_eq_true rfl), (Nat.le_of_ble_eq_true rfl)⟩ ⟨by show cu + 2 + 0 ≤ 601024; omega, by show su + 12 + 0 ≤ 7293034; omega⟩ dL_law_2325) rfl rfl rfl rfl ?_
  refine z_istore (pc2 := 2330) (lv2 := [(6, .int q.1), (5, .int r.1), (4, .int (nI (10 * t))), (3, .ref (ad G 2017 0)), (2, .ref (ad G 11 0)), (1, .ref (ad G 10 0)), (0, .ref b)]) C dL_law_2328 (by decide) rfl rfl ?_
  refine z_aload_n (pc2 := 2331) C dL_law_2330 4 rfl rfl rfl ?_
  refine x_ret (rest := []) (st2 := [.int r.1]) (pc2 := 2334) (cu2 := cu + 2) (su2 := su + 12) (z_cV C hd11 (Nat.le_of_ble_eq_true rfl) kmX11_thrown rfl kk_L_115 (tX11_thrown hok hd11 (r := r.1) (by rw [← g4]; rfl)) rfl rfl (Nat.le_of_ble_eq_true rfl) ⟨(Nat.le_of_ble_eq_true rfl), (Nat.le_of_ble_eq_true rfl)⟩ ⟨by show cu + 2 + 0 ≤ 601024; omega, by show su + 12 + 0 ≤ 7293034; omega⟩ dL_law_2331) rfl rfl rfl rfl ?_
  refine z_iload (pc2 := 2336) C dL_law_2334 1 rfl rfl ?_
  refine z_icmp_eq (tgt := 2341) (pc2 := 2339) C dL_law_2336 (by decide) rfl (fun _ => ?_) (fun h9 => absurd rfl h9)
  refine z_iload (pc2 := 2343) C dL_law_2341 1 rfl rfl ?_
  have fin : XW G B 7 2358 [(6, .int q.1), (5, .int r.1), (4, .int (nI (10 * t))), (3, .ref (ad G 2017 0)), (2, .ref (ad G 11 0)), (1, .ref (ad G 10 0)), (0, .ref b)] [] q.2 (cu + 2) (su + 12) := by
    refine z_goto (tgt := 2361) C dL_law_2358 (by decide) ?_
    exact z_sub (lv2 := [(4, .int (nI (10 * t))), (3, .ref (ad G 2017 0)), (2, .ref (ad G 11 0)), (1, .ref (ad G 10 0)), (0, .ref b)]) C [2, 3, 4, 5, 6] rfl (k q.2 g6)
  refine z_if_ne (tgt := 2358) (pc2 := 2346) C dL_law_2343 (by decide) rfl (fun _ => fin) (fun h8 => ?_)
  refine z_aload_n (pc2 := 2347) C dL_law_2346 3 rfl rfl rfl ?_
  refine z_iconst (pc2 := 2348) (v := 0) C dL_law_2347 rfl rfl ?_
  refine z_lald (pc2 := 2349) C hd17 dL_law_2348 rfl (nI_in (c := 0) (N := 1) (by decide) (by decide)) rfl ?_
  refine z_iload (pc2 := 2351) C dL_law_2349 0 rfl rfl ?_
  refine z_i2l (pc2 := 2352) C dL_law_2351 rfl ?_
  refine z_lcmp (pc2 := 2353) C dL_law_2352 rfl ?_
  exact z_if_eq (tgt := 2358) (pc2 := 2356) C dL_law_2353 (by decide) rfl (fun _ => fin) (fun h9 => absurd (cmp0 (g5 h8)) h9)
def OKs (RG : XO → Prop) : Prop := OK_step RG ∧ OK_upgrade RG ∧ OK_submit RG ∧ OK_claim RG ∧ OK_pool RG ∧ OK_make RG ∧ OK_head RG ∧ OK_base RG ∧ OK_used RG ∧ OK_transactionAt RG ∧ OK_eventAt RG ∧ OK_bloom RG ∧ OK_find RG ∧ OK_coins RG ∧ OK_codeOf RG ∧ OK_slot RG ∧ OK_burned RG ∧ OK_root RG ∧ OK_rootAnew RG ∧ OK_leaf RG ∧ OK_proof RG ∧ OK_proves RG ∧ OK_prune RG ∧ OK_vote RG ∧ OK_isJustified RG ∧ OK_lastFinal RG ∧ OK_stake RG
theorem sw_in {n : Nat} {offs : Array Int} {off : Int} {x : Int32} (hx : x.toInt = (n : Int)) (h : offs[n]? = some off) : offs[(x.toInt - 0).toNat]? = some off := by
  rw [hx, Int.sub_zero]
  exact h
set_option maxRecDepth 20000 in
set_option maxHeartbeats 1000000 in
theorem law_loop {G : XG} (hok : XK G) {B : XB} (C : XZ G B cL_law RL room_1 7) (hN : XNB B) {b L : Nat} {xs : Nat → Int32} (S : XSc G b L xs B) (hd10 : dm G 10 0) (hd11 : dm G 11 0) (hd17 : dm G 2017 0) (hL : L ≤ 5120) {RG : XO → Prop} (ok : OKs RG) (hend : ∀ (lv : List (Nat × Value)) (Ω : XO) (cu su : Nat), cu ≤ 601024 → su ≤ 7293034 → XW G B 7 2368 lv [.int 1] Ω cu su) : ∀ (n t : Nat) (Ω : XO) (cu su : Nat), t + n = 513 → RG Ω → cu ≤ 1000 + 10 * t → su ≤ 100000 + 60 * t → XW G B 7 23 [(4, .int (nI (10 * t))), (3, .ref (ad G 2017 0)), (2, .ref (ad G 11 0)), (1, .ref (ad G 10 0)), (0, .ref b)] [] Ω cu su := by
  intro n
  have e2361 : ∀ (t : Nat) (Ω : XO) (cu su : Nat), XW G B 7 23 [(4, .int (nI (10 * (t + 1)))), (3, .ref (ad G 2017 0)), (2, .ref (ad G 11 0)), (1, .ref (ad G 10 0)), (0, .ref b)] [] Ω cu su → XW G B 7 2361 [(4, .int (nI (10 * t))), (3, .ref (ad G 2017 0)), (2, .ref (ad G 11 0)), (1, .ref (ad G 10 0)), (0, .ref b)] [] Ω cu su := by
    intro t Ω cu su h
    refine z_iinc (pc2 := 2364) (v := nI (10 * (t + 1))) (lv2 := [(4, .int (nI (10 * (t + 1)))), (3, .ref (ad G 2017 0)), (2, .ref (ad G 11 0)), (1, .ref (ad G 10 0)), (0, .ref b)]) C dL_law_2361 0 rfl ?_ (by decide) rfl rfl ?_
    · show nI (10 * t) + nI 10 = _
      rw [nI_add, show 10 * t + 10 = 10 * (t + 1) by omega]
    · exact z_goto (tgt := 23) C dL_law_2364 (by decide) h
  induction n with
  | zero =>
    intro t Ω cu su ht hR hcu hsu
    refine z_iload (pc2 := 25) C dL_law_23 0 rfl rfl ?_
    refine z_aload_n (pc2 := 26) C dL_law_25 4 rfl rfl rfl ?_
    refine z_len (pc2 := 27) C S dL_law_26 rfl ?_
    refine z_bipush (pc2 := 29) (v := 10) C dL_law_27 rfl rfl ?_
    refine z_isub (pc2 := 30) C dL_law_29 rfl ?_
    have e10 : (10 : Int32).toInt = 10 := by decide
    have eL := ti_nI (n := L) (by omega)
    refine z_icmp_gt (tgt := 2367) (pc2 := 33) C dL_law_30 (by decide) rfl (fun _ => ?_) (fun h => absurd ?_ h)
    · refine z_iconst (pc2 := 2368) (v := 1) C dL_law_2367 rfl rfl ?_
      exact hend _ _ _ _ (by omega) (by omega)
    · rw [ti_lt, ti_sub (by omega) (by omega), eL, e10, ti_nI (by omega)]
      omega
  | succ n ih =>
    intro t Ω cu su ht hR hcu hsu
    refine z_iload (pc2 := 25) C dL_law_23 0 rfl rfl ?_
    refine z_aload_n (pc2 := 26) C dL_law_25 4 rfl rfl rfl ?_
    refine z_len (pc2 := 27) C S dL_law_26 rfl ?_
    refine z_bipush (pc2 := 29) (v := 10) C dL_law_27 rfl rfl ?_
    refine z_isub (pc2 := 30) C dL_law_29 rfl ?_
    have e10 : (10 : Int32).toInt = 10 := by decide
    have eL := ti_nI (n := L) (by omega)
    refine z_icmp_gt (tgt := 2367) (pc2 := 33) C dL_law_30 (by decide) rfl (fun _ => ?_) (fun h => ?_)
    · refine z_iconst (pc2 := 2368) (v := 1) C dL_law_2367 rfl rfl ?_
      exact hend _ _ _ _ (by omega) (by omega)
    · have hlt : 10 * t + 10 ≤ L := by
        rw [ti_lt, ti_sub (by omega) (by omega), eL, e10, ti_nI (by omega)] at h
        omega
      refine z_aload_n (pc2 := 34) C dL_law_33 4 rfl rfl rfl ?_
      refine z_iload (pc2 := 36) C dL_law_34 0 rfl rfl ?_
      have hsl : ∀ (st : List Value), XW G B 7 37 [(4, .int (nI (10 * t))), (3, .ref (ad G 2017 0)), (2, .ref (ad G 11 0)), (1, .ref (ad G 10 0)), (0, .ref b)] (.int (xs (10 * t)) :: st) Ω cu su → XW G B 7 36 [(4, .int (nI (10 * t))), (3, .ref (ad G 2017 0)), (2, .ref (ad G 11 0)), (1, .ref (ad G 10 0)), (0, .ref b)] (.int (nI (10 * t)) :: .ref b :: st) Ω cu su := by
        intro st kk
        obtain ⟨p, e, R, s, m, args, below, meth, c, Q⟩ := B
        obtain ⟨hx, hb, hml, ho, hts, hU, hok9, hlk, hR9, hret, htab, hQ⟩ := C
        intro H locs ls hP hS hl0
        refine va_sld hx hb S.1 S.2.1 S.2.2 hS (nI_in (show 10 * t < L by omega) (by omega)) dL_law_36 ?_
        rw [nI_clamp (by omega)]
        exact kk H locs ls hP hS hl0
      refine hsl [] ?_
      refine z_bipush (pc2 := 39) (v := 31) C dL_law_37 rfl rfl ?_
      refine z_iand (pc2 := 40) C dL_law_39 rfl ?_
      obtain ⟨o, hx0⟩ : ∃ o, o = xs (10 * t) &&& 31 := ⟨_, rfl⟩
      rw [← hx0]
      have hdef : XW G B 7 2361 [(4, .int (nI (10 * t))), (3, .ref (ad G 2017 0)), (2, .ref (ad G 11 0)), (1, .ref (ad G 10 0)), (0, .ref b)] [] Ω cu su := e2361 t Ω cu su (ih (t + 1) Ω cu su (by omega) hR (by omega) (by omega))
      by_cases hlo : o.toInt < 0 ∨ 26 < o.toInt
      · exact z_tableOut (tgt := 2361) C dL_law_40 hlo (by decide) hdef
      · obtain ⟨v, hv, hvo⟩ : ∃ v : Nat, o.toInt = (v : Int) ∧ v < 27 := ⟨o.toInt.toNat, by omega, by omega⟩
        obtain ⟨o0, o1, o2, o3, o4, o5, o6, o7, o8, o9, o10, o11, o12, o13, o14, o15, o16, o17, o18, o19, o20, o21, o22, o23, o24, o25, o26⟩ := ok
        rcases (show v = 0 ∨ v = 1 ∨ v = 2 ∨ v = 3 ∨ v = 4 ∨ v = 5 ∨ v = 6 ∨ v = 7 ∨ v = 8 ∨ v = 9 ∨ v = 10 ∨ v = 11 ∨ v = 12 ∨ v = 13 ∨ v = 14 ∨ v = 15 ∨ v = 16 ∨ v = 17 ∨ v = 18 ∨ v = 19 ∨ v = 20 ∨ v = 21 ∨ v = 22 ∨ v = 23 ∨ v = 24 ∨ v = 25 ∨ v = 26 by omega) with rfl | rfl | rfl | rfl | rfl | rfl | rfl | rfl | rfl | rfl | rfl | rfl | rfl | rfl | rfl | rfl | rfl | rfl | rfl | rfl | rfl | rfl | rfl | rfl | rfl | rfl | rfl
        · exact z_tableIn (tgt := 164) (off := 124) C dL_law_40 (by omega) (by omega) (sw_in hv rfl) (by decide) (lc_step hok C hN S hd10 hd11 hd17 hlt hL o0 hR (by omega) (by omega) (fun Ω2 h2 => e2361 t Ω2 _ _ (ih (t + 1) Ω2 _ _ (by omega) h2 (by omega) (by omega))))
        · exact z_tableIn (tgt := 244) (off := 204) C dL_law_40 (by omega) (by omega) (sw_in hv rfl) (by decide) (lc_upgrade hok C hN S hd10 hd11 hd17 hlt hL o1 hR (by omega) (by omega) (fun Ω2 h2 => e2361 t Ω2 _ _ (ih (t + 1) Ω2 _ _ (by omega) h2 (by omega) (by omega))))
        · exact z_tableIn (tgt := 312) (off := 272) C dL_law_40 (by omega) (by omega) (sw_in hv rfl) (by decide) (lc_submit hok C hN S hd10 hd11 hd17 hlt hL o2 hR (by omega) (by omega) (fun Ω2 h2 => e2361 t Ω2 _ _ (ih (t + 1) Ω2 _ _ (by omega) h2 (by omega) (by omega))))
        · exact z_tableIn (tgt := 472) (off := 432) C dL_law_40 (by omega) (by omega) (sw_in hv rfl) (by decide) (lc_claim hok C hN S hd10 hd11 hd17 hlt hL o3 hR (by omega) (by omega) (fun Ω2 h2 => e2361 t Ω2 _ _ (ih (t + 1) Ω2 _ _ (by omega) h2 (by omega) (by omega))))
        · exact z_tableIn (tgt := 590) (off := 550) C dL_law_40 (by omega) (by omega) (sw_in hv rfl) (by decide) (lc_pool hok C hN S hd10 hd11 hd17 hlt hL o4 hR (by omega) (by omega) (fun Ω2 h2 => e2361 t Ω2 _ _ (ih (t + 1) Ω2 _ _ (by omega) h2 (by omega) (by omega))))
        · exact z_tableIn (tgt := 646) (off := 606) C dL_law_40 (by omega) (by omega) (sw_in hv rfl) (by decide) (lc_make hok C hN S hd10 hd11 hd17 hlt hL o5 hR (by omega) (by omega) (fun Ω2 h2 => e2361 t Ω2 _ _ (ih (t + 1) Ω2 _ _ (by omega) h2 (by omega) (by omega))))
        · exact z_tableIn (tgt := 738) (off := 698) C dL_law_40 (by omega) (by omega) (sw_in hv rfl) (by decide) (lc_head hok C hN S hd10 hd11 hd17 hlt hL o6 hR (by omega) (by omega) (fun Ω2 h2 => e2361 t Ω2 _ _ (ih (t + 1) Ω2 _ _ (by omega) h2 (by omega) (by omega))))
        · exact z_tableIn (tgt := 794) (off := 754) C dL_law_40 (by omega) (by omega) (sw_in hv rfl) (by decide) (lc_base hok C hN S hd10 hd11 hd17 hlt hL o7 hR (by omega) (by omega) (fun Ω2 h2 => e2361 t Ω2 _ _ (ih (t + 1) Ω2 _ _ (by omega) h2 (by omega) (by omega))))
        · exact z_tableIn (tgt := 862) (off := 822) C dL_law_40 (by omega) (by omega) (sw_in hv rfl) (by decide) (lc_used hok C hN S hd10 hd11 hd17 hlt hL o8 hR (by omega) (by omega) (fun Ω2 h2 => e2361 t Ω2 _ _ (ih (t + 1) Ω2 _ _ (by omega) h2 (by omega) (by omega))))
        · exact z_tableIn (tgt := 930) (off := 890) C dL_law_40 (by omega) (by omega) (sw_in hv rfl) (by decide) (lc_transactionAt hok C hN S hd10 hd11 hd17 hlt hL o9 hR (by omega) (by omega) (fun Ω2 h2 => e2361 t Ω2 _ _ (ih (t + 1) Ω2 _ _ (by omega) h2 (by omega) (by omega))))
        · exact z_tableIn (tgt := 1010) (off := 970) C dL_law_40 (by omega) (by omega) (sw_in hv rfl) (by decide) (lc_eventAt hok C hN S hd10 hd11 hd17 hlt hL o10 hR (by omega) (by omega) (fun Ω2 h2 => e2361 t Ω2 _ _ (ih (t + 1) Ω2 _ _ (by omega) h2 (by omega) (by omega))))
        · exact z_tableIn (tgt := 1090) (off := 1050) C dL_law_40 (by omega) (by omega) (sw_in hv rfl) (by decide) (lc_bloom hok C hN S hd10 hd11 hd17 hlt hL o11 hR (by omega) (by omega) (fun Ω2 h2 => e2361 t Ω2 _ _ (ih (t + 1) Ω2 _ _ (by omega) h2 (by omega) (by omega))))
        · exact z_tableIn (tgt := 1158) (off := 1118) C dL_law_40 (by omega) (by omega) (sw_in hv rfl) (by decide) (lc_find hok C hN S hd10 hd11 hd17 hlt hL o12 hR (by omega) (by omega) (fun Ω2 h2 => e2361 t Ω2 _ _ (ih (t + 1) Ω2 _ _ (by omega) h2 (by omega) (by omega))))
        · exact z_tableIn (tgt := 1226) (off := 1186) C dL_law_40 (by omega) (by omega) (sw_in hv rfl) (by decide) (lc_coins hok C hN S hd10 hd11 hd17 hlt hL o13 hR (by omega) (by omega) (fun Ω2 h2 => e2361 t Ω2 _ _ (ih (t + 1) Ω2 _ _ (by omega) h2 (by omega) (by omega))))
        · exact z_tableIn (tgt := 1306) (off := 1266) C dL_law_40 (by omega) (by omega) (sw_in hv rfl) (by decide) (lc_codeOf hok C hN S hd10 hd11 hd17 hlt hL o14 hR (by omega) (by omega) (fun Ω2 h2 => e2361 t Ω2 _ _ (ih (t + 1) Ω2 _ _ (by omega) h2 (by omega) (by omega))))
        · exact z_tableIn (tgt := 1386) (off := 1346) C dL_law_40 (by omega) (by omega) (sw_in hv rfl) (by decide) (lc_slot hok C hN S hd10 hd11 hd17 hlt hL o15 hR (by omega) (by omega) (fun Ω2 h2 => e2361 t Ω2 _ _ (ih (t + 1) Ω2 _ _ (by omega) h2 (by omega) (by omega))))
        · exact z_tableIn (tgt := 1478) (off := 1438) C dL_law_40 (by omega) (by omega) (sw_in hv rfl) (by decide) (lc_burned hok C hN S hd10 hd11 hd17 hlt hL o16 hR (by omega) (by omega) (fun Ω2 h2 => e2361 t Ω2 _ _ (ih (t + 1) Ω2 _ _ (by omega) h2 (by omega) (by omega))))
        · exact z_tableIn (tgt := 1546) (off := 1506) C dL_law_40 (by omega) (by omega) (sw_in hv rfl) (by decide) (lc_root hok C hN S hd10 hd11 hd17 hlt hL o17 hR (by omega) (by omega) (fun Ω2 h2 => e2361 t Ω2 _ _ (ih (t + 1) Ω2 _ _ (by omega) h2 (by omega) (by omega))))
        · exact z_tableIn (tgt := 1614) (off := 1574) C dL_law_40 (by omega) (by omega) (sw_in hv rfl) (by decide) (lc_rootAnew hok C hN S hd10 hd11 hd17 hlt hL o18 hR (by omega) (by omega) (fun Ω2 h2 => e2361 t Ω2 _ _ (ih (t + 1) Ω2 _ _ (by omega) h2 (by omega) (by omega))))
        · exact z_tableIn (tgt := 1682) (off := 1642) C dL_law_40 (by omega) (by omega) (sw_in hv rfl) (by decide) (lc_leaf hok C hN S hd10 hd11 hd17 hlt hL o19 hR (by omega) (by omega) (fun Ω2 h2 => e2361 t Ω2 _ _ (ih (t + 1) Ω2 _ _ (by omega) h2 (by omega) (by omega))))
        · exact z_tableIn (tgt := 1762) (off := 1722) C dL_law_40 (by omega) (by omega) (sw_in hv rfl) (by decide) (lc_proof hok C hN S hd10 hd11 hd17 hlt hL o20 hR (by omega) (by omega) (fun Ω2 h2 => e2361 t Ω2 _ _ (ih (t + 1) Ω2 _ _ (by omega) h2 (by omega) (by omega))))
        · exact z_tableIn (tgt := 1854) (off := 1814) C dL_law_40 (by omega) (by omega) (sw_in hv rfl) (by decide) (lc_proves hok C hN S hd10 hd11 hd17 hlt hL o21 hR (by omega) (by omega) (fun Ω2 h2 => e2361 t Ω2 _ _ (ih (t + 1) Ω2 _ _ (by omega) h2 (by omega) (by omega))))
        · exact z_tableIn (tgt := 2007) (off := 1967) C dL_law_40 (by omega) (by omega) (sw_in hv rfl) (by decide) (lc_prune hok C hN S hd10 hd11 hd17 hlt hL o22 hR (by omega) (by omega) (fun Ω2 h2 => e2361 t Ω2 _ _ (ih (t + 1) Ω2 _ _ (by omega) h2 (by omega) (by omega))))
        · exact z_tableIn (tgt := 2063) (off := 2023) C dL_law_40 (by omega) (by omega) (sw_in hv rfl) (by decide) (lc_vote hok C hN S hd10 hd11 hd17 hlt hL o23 hR (by omega) (by omega) (fun Ω2 h2 => e2361 t Ω2 _ _ (ih (t + 1) Ω2 _ _ (by omega) h2 (by omega) (by omega))))
        · exact z_tableIn (tgt := 2162) (off := 2122) C dL_law_40 (by omega) (by omega) (sw_in hv rfl) (by decide) (lc_isJustified hok C hN S hd10 hd11 hd17 hlt hL o24 hR (by omega) (by omega) (fun Ω2 h2 => e2361 t Ω2 _ _ (ih (t + 1) Ω2 _ _ (by omega) h2 (by omega) (by omega))))
        · exact z_tableIn (tgt := 2237) (off := 2197) C dL_law_40 (by omega) (by omega) (sw_in hv rfl) (by decide) (lc_lastFinal hok C hN S hd10 hd11 hd17 hlt hL o25 hR (by omega) (by omega) (fun Ω2 h2 => e2361 t Ω2 _ _ (ih (t + 1) Ω2 _ _ (by omega) h2 (by omega) (by omega))))
        · exact z_tableIn (tgt := 2293) (off := 2253) C dL_law_40 (by omega) (by omega) (sw_in hv rfl) (by decide) (lc_stake hok C hN S hd10 hd11 hd17 hlt hL o26 hR (by omega) (by omega) (fun Ω2 h2 => e2361 t Ω2 _ _ (ih (t + 1) Ω2 _ _ (by omega) h2 (by omega) (by omega))))
