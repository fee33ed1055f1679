/-- one row of 64 ints more, at the address a -/
def gx (G : XG) (e a : Nat) : XG := (gl G, gb G, fun k i => if k = 2018 ∧ i = e then a else ad G k i, fun b => if b = a then (2018, e) else gk G b, gL G ++ [a], gD G, gC G, gT G)
theorem rtk_18 (k j : Nat) : rtk k j ≠ 2018 := by
  have h : rkt.all (fun l => l.all (fun x => !(Nat.beq x 2018))) = true := by decide +kernel
  have h2 : (rkt.getD k []).all (fun x => !(Nat.beq x 2018)) = true := by
    cases h1 : rkt[k]? with
    | none =>
      rw [List.getD_eq_getElem?_getD, h1]
      rfl
    | some l =>
      rw [List.getD_eq_getElem?_getD, h1]
      exact List.all_eq_true.mp h l (List.mem_of_getElem? h1)
  show (rkt.getD k []).getD j 0 ≠ 2018
  generalize rkt.getD k [] = l at h2 ⊢
  cases h3 : l[j]? with
  | none =>
    rw [List.getD_eq_getElem?_getD, h3]
    decide
  | some x =>
    have h4 := List.all_eq_true.mp h2 x (List.mem_of_getElem? h3)
    rw [List.getD_eq_getElem?_getD, h3]
    intro e
    have e : x = 2018 := e
    rw [e] at h4
    exact absurd h4 (by decide)
theorem elk_18 (k : Nat) : elk k ≠ 2018 := by
  unfold elk
  (repeat' split) <;> decide
theorem gx_ad {G : XG} {e a : Nat} : ad (gx G e a) 2018 e = a := if_pos ⟨rfl, rfl⟩
theorem gx_ad2 {G : XG} {e a k i : Nat} (h : ¬ (k = 2018 ∧ i = e)) : ad (gx G e a) k i = ad G k i := if_neg h
theorem gx_ad3 {G : XG} {e a k i : Nat} (h : k ≠ 2018) : ad (gx G e a) k i = ad G k i := if_neg (fun z => h z.1)
theorem gx_gka {G : XG} {e a : Nat} : gk (gx G e a) a = (2018, e) := if_pos rfl
theorem gx_gk {G : XG} {e a b : Nat} (h : b ≠ a) : gk (gx G e a) b = gk G b := if_neg h
theorem gx_dn {G : XG} {e a : Nat} : dm (gx G e a) 2018 e := by
  refine ⟨?_, ?_⟩
  · rw [gx_ad]
    exact List.mem_append_right _ List.mem_cons_self
  · rw [gx_ad]
    exact gx_gka
theorem gx_dm {G : XG} {e a : Nat} (ha : a ∉ gL G) {k i : Nat} (hne : ¬ (k = 2018 ∧ i = e)) (h : dm G k i) : dm (gx G e a) k i := by
  have hb : ad G k i ≠ a := fun z => ha (z ▸ h.1)
  refine ⟨?_, ?_⟩
  · rw [gx_ad2 hne]
    exact List.mem_append_left _ h.1
  · rw [gx_ad2 hne, gx_gk hb]
    exact h.2
theorem gx_of {G : XG} {e a : Nat} {k i : Nat} (hne : ¬ (k = 2018 ∧ i = e)) (h : dm (gx G e a) k i) : dm G k i := by
  have h1 := h.1
  have h2 := h.2
  rw [gx_ad2 hne] at h1 h2
  by_cases hb : ad G k i = a
  · rw [hb, gx_gka] at h2
    cases h2
    exact absurd ⟨rfl, rfl⟩ hne
  · rw [gx_gk hb] at h2
    rcases List.mem_append.mp h1 with h3 | h3
    · exact ⟨h3, h2⟩
    · exact absurd (List.mem_singleton.mp h3) hb
/-- a place of these things -/
theorem gk_dm {G : XG} (hok : XK G) {b : Nat} (hb : b ∈ gL G) : dm G (gk G b).1 (gk G b).2 := ⟨by rw [hok.2.1 b hb]; exact hb, by rw [hok.2.1 b hb]⟩
theorem gk_ne {G : XG} (hok : XK G) {e b : Nat} (hn : ¬ dm G 2018 e) (hb : b ∈ gL G) : ¬ ((gk G b).1 = 2018 ∧ (gk G b).2 = e) := by
  intro h
  have h1 := gk_dm hok hb
  rw [h.1, h.2] at h1
  exact hn h1
theorem gx_XK {G : XG} (hok : XK G) {e a : Nat} (ha : a ∉ gL G) (hb : gb G ≤ a) (hn : ¬ dm G 2018 e) : XK (gx G e a) := by
  have hok' := hok
  obtain ⟨h1, h2, h3, h4, h5⟩ := hok
  refine ⟨h1, fun b hb' => ?_, fun f => ?_, fun k j i h hk hj ht => ?_, fun k i j h hk ht hj => ?_⟩
  · by_cases hba : b = a
    · subst hba
      rw [gx_gka]
      exact gx_ad
    · have hbL : b ∈ gL G := by
        rcases List.mem_append.mp hb' with h | h
        · exact h
        · exact absurd (List.mem_singleton.mp h) hba
      rw [gx_gk hba, gx_ad2 (gk_ne hok' hn hbL)]
      exact h2 b hbL
  · have hD := h3 f
    have hL : (va_pl (gL G) f).length = (gL G).length := by simp [va_pl]
    have e1 : va_pl (gL (gx G e a)) f = va_pl (gL G) f ++ [(a, f a)] := by
      show (gL G ++ [a]).map _ = _
      rw [List.map_append]
      rfl
    have hin : ∀ (i : Nat) (x : Nat × va_E), (va_pl (gL G) f)[i]? = some x → x.1 ∈ gL G := fun i x hx => by
      obtain ⟨y, hy, rfl⟩ := List.mem_map.mp (List.mem_of_getElem? hx)
      exact hy
    have hsp : ∀ (i : Nat) (x : Nat × va_E), (va_pl (gL (gx G e a)) f)[i]? = some x → (va_pl (gL G) f)[i]? = some x ∨ (i = (gL G).length ∧ x = (a, f a)) := by
      intro i x hx
      rw [e1] at hx
      by_cases hi : i < (va_pl (gL G) f).length
      · rw [List.getElem?_append_left hi] at hx
        exact Or.inl hx
      · rw [List.getElem?_append_right (by omega)] at hx
        have hz := (List.getElem?_eq_some_iff.mp hx).1
        rw [List.length_singleton] at hz
        rw [show i - (va_pl (gL G) f).length = 0 by omega] at hx
        exact Or.inr ⟨by omega, (Option.some.inj hx).symm⟩
    refine ⟨fun i j x y hi hj hxy => ?_, fun i x hi => ?_⟩
    · rcases hsp i x hi with k1 | ⟨k1, rfl⟩
      · rcases hsp j y hj with k2 | ⟨k2, rfl⟩
        · exact hD.1 i j x y k1 k2 hxy
        · exact absurd (show a ∈ gL G by rw [← show x.1 = a from hxy]; exact hin i x k1) ha
      · rcases hsp j y hj with k2 | ⟨k2, rfl⟩
        · exact absurd (show a ∈ gL G by rw [show a = y.1 from hxy]; exact hin j y k2) ha
        · rw [k1, k2]
    · rcases hsp i x hi with k1 | ⟨k1, rfl⟩
      · exact hD.2 i x k1
      · exact hb
  · have hk2 : k ≠ 2018 := by omega
    exact gx_dm ha (fun z => rtk_18 k j z.1) (h4 k j i (gx_of (fun z => hk2 z.1) h) hk hj ht)
  · have hk2 : k ≠ 2018 := fun z => by
      rw [z] at ht
      exact absurd ht (by decide)
    exact gx_dm ha (fun z => elk_18 k z.1) (h5 k i j (gx_of (fun z => hk2 z.1) h) hk ht hj)
theorem gx_EE {G : XG} {e a : Nat} (Ω : XO) (k i : Nat) : EE (gx G e a) Ω k i = EE G Ω k i := by
  have h1 : fv (gx G e a) Ω k i = fv G Ω k i := by
    funext j
    unfold fv
    rw [gx_ad3 (rtk_18 k j), gx_ad3 (rtk_18 k j)]
  have h2 : (fun j => some (ad (gx G e a) (elk k) (eli k i j))) = fun j => some (ad G (elk k) (eli k i j)) := by
    funext j
    rw [gx_ad3 (elk_18 k)]
  unfold EE
  rw [h1, h2]
  rfl
theorem gx_pl {G : XG} (hok : XK G) {e a : Nat} (ha : a ∉ gL G) (Ω : XO) : pl (gx G e a) Ω = pl G Ω ++ [(a, EE G Ω 2018 e)] := by
  show (gL G ++ [a]).map _ = (gL G).map _ ++ _
  rw [List.map_append]
  have e1 : (gL G).map (fun b => (b, EE (gx G e a) Ω (gk (gx G e a) b).1 (gk (gx G e a) b).2)) = (gL G).map (fun b => (b, EE G Ω (gk G b).1 (gk G b).2)) := by
    refine List.map_congr_left fun b hb => ?_
    have hba : b ≠ a := fun z => ha (z ▸ hb)
    rw [gx_gk hba, gx_EE]
  rw [e1]
  congr 1
  show [(a, EE (gx G e a) Ω (gk (gx G e a) a).1 (gk (gx G e a) a).2)] = _
  rw [gx_gka, gx_EE]
/-- the row at first -/
def zr (Ω : XO) (e : Nat) : XO := (fun a b c => if a = 2018 ∧ b = e then 0 else Ω.1 a b c, Ω.2.1, Ω.2.2)
theorem zr_I {Ω : XO} {e k i j : Nat} (h : k ≠ 2018) : xI (zr Ω e) k i j = xI Ω k i j := if_neg (fun z => h z.1)
theorem zr_I2 {Ω : XO} {e i j : Nat} (h : i ≠ e) : xI (zr Ω e) 2018 i j = xI Ω 2018 i j := if_neg (fun z => h z.2)
theorem zr_0 {Ω : XO} {e j : Nat} : xI (zr Ω e) 2018 e j = 0 := if_pos ⟨rfl, rfl⟩
theorem zr_L {Ω : XO} {e k i j : Nat} : xL (zr Ω e) k i j = xL Ω k i j := rfl
theorem zr_pl {G : XG} (hok : XK G) {e : Nat} (hn : ¬ dm G 2018 e) (Ω : XO) : pl G (zr Ω e) = pl G Ω := by
  show (gL G).map _ = (gL G).map _
  refine List.map_congr_left fun b hb => ?_
  have hne := gk_ne hok hn hb
  refine congrArg (fun z => (b, z)) (EE_alk ⟨fun hk j hj => ⟨?_, rfl, rfl⟩, fun hk => ⟨?_, rfl⟩⟩)
  · funext c
    exact if_neg (fun z => by omega)
  · funext c
    exact if_neg hne
theorem z_new64 {G : XG} {B : XB} {cc : ByteArray} {own : String} {rm : Room} {nL : Nat} (C : XZ G B cc own rm nL) {e : Nat} (hn : ¬ dm G 2018 e) {pc : Nat} {lv : List (Nat × Value)} {st : List Value} {Ω : XO} {cu su : Nat} (hd : decode cc pc = .ok (.newarray .int, 2)) (hcu : cu + 1 ≤ rm.cells) (hsu : su + 64 ≤ rm.slots) {pc2 cu2 su2 : Nat} (hp : pc + 2 = pc2) (hcu2 : cu + 1 = cu2) (hsu2 : su + 64 = su2) (k : ∀ a : Nat, gs G (gx G e a) → a ∉ gL G → XW (gx G e a) B nL pc2 lv (.ref a :: st) (zr Ω e) cu2 su2) : XW G B nL pc lv (.int 64 :: st) Ω cu su := by
  obtain ⟨p, e', R, s, m, args, below, meth, c, Q⟩ := B
  obtain ⟨hx, hb, hml, ho, hts, hU, hok, hlk, hR, hret, htab, hQ⟩ := C
  subst hp
  subst hR
  subst hcu2
  subst hsu2
  intro H locs ls hP hS hl
  refine va_newaK (atype := .int) (N := 64) hx hb (hts _ ya_int) rfl hd rfl (by decide) rfl (Nat.le_of_ble_eq_true rfl) hcu hsu rfl fun H1 cA e1 z1 o1 hAr hNm => ?_
  have hK := (hU.2.1.2 0 _ rfl).2
  have hcA : cA = gC G 0 := Option.some.inj (hNm.symm.trans hK)
  subst hcA
  have hlt : ∀ (k : Nat) (x : Nat × va_E), (pl G Ω)[k]? = some x → x.1 < H.size := fun k x hx => (hP k x hx).lt
  have ha : H.size ∉ gL G := fun hm => by
    obtain ⟨q, hq⟩ := pl_get (Ω := Ω) (gk_dm hok hm)
    have h9 := hlt q _ hq
    rw [hok.2.1 _ hm] at h9
    exact Nat.lt_irrefl _ h9
  have hgb : gb G ≤ H.size := Nat.le_trans hU.1 hS.1
  have hg : gs G (gx G e H.size) := ⟨gx_XK hok ha hgb hn, rfl, rfl, rfl, rfl, rfl⟩
  have hkp : ∀ (k : Nat) (x : Nat × va_E), (pl G Ω)[k]? = some x → H1[x.1]? = H[x.1]? := fun k x hx => o1 x.1 (hlt k x hx)
  have hEE : EE G (zr Ω e) 2018 e = .inl (gC G 0, 64, .inl (fun _ => 0)) := by
    have h0 : xI (zr Ω e) 2018 e = fun _ => 0 := funext fun j => zr_0
    rw [← h0]
    rfl
  refine k H.size hg ha H1 locs ls ?_ ⟨by rw [z1]; exact Nat.le_trans hS.1 (by omega), fun x h1 h2 => (o1 x (Nat.lt_of_lt_of_le h1 hS.1)).trans (hS.2.1 x h1 h2), hS.2.2⟩ hl
  rw [gx_pl hok ha, zr_pl hok hn, hEE]
  refine (hP.kept hkp).app (fun k x hx => ?_)
  have hz : k < 1 := (List.getElem?_eq_some_iff.mp hx).1
  rw [show k = 0 by omega] at hx
  cases hx
  exact e1
theorem z_drop {G : XG} (hok : XK G) {e a : Nat} (ha : a ∉ gL G) {B : XB} {nL pc : Nat} {lv : List (Nat × Value)} {st : List Value} {Ω : XO} {cu su : Nat} (k : XW G B nL pc lv st Ω cu su) : XW (gx G e a) B nL pc lv st Ω cu su := by
  obtain ⟨p, e', R, s, m, args, below, meth, c, Q⟩ := B
  intro H locs ls hP hS hl
  refine k H locs ls (fun i x hx => ?_) hS hl
  rw [gx_pl hok ha] at hP
  exact hP i x (by rw [List.getElem?_append_left (List.getElem?_eq_some_iff.mp hx).1]; exact hx)
