theorem EE2015 (G : XG) (Ω : XO) (i : Nat) : EE G Ω 2015 i = ra G 7 20 (fun j => ad G 9 (20 * i + j)) := EE_ar (k := 2015) (Nat.le_of_ble_eq_true rfl) (Nat.le_of_ble_eq_true rfl)
theorem EE2004 (G : XG) (Ω : XO) (i : Nat) : EE G Ω 2004 i = ra G 6 4 (fun j => ad G 8 (4 * i + j)) := EE_ar (k := 2004) (Nat.le_of_ble_eq_true rfl) (Nat.le_of_ble_eq_true rfl)
theorem EE2007 (G : XG) (Ω : XO) (i : Nat) : EE G Ω 2007 i = ra G 4 4 (fun j => ad G 3 (eli 2007 i j)) := EE_ar (k := 2007) (Nat.le_of_ble_eq_true rfl) (Nat.le_of_ble_eq_true rfl)
theorem EE2002 (G : XG) (Ω : XO) (i : Nat) : EE G Ω 2002 i = ra G 2 24 (fun j => ad G 0 (24 * i + j)) := EE_ar (k := 2002) (Nat.le_of_ble_eq_true rfl) (Nat.le_of_ble_eq_true rfl)
theorem EE2003 (G : XG) (Ω : XO) (i : Nat) : EE G Ω 2003 i = ra G 5 40 (fun j => ad G 7 (40 * i + j)) := EE_ar (k := 2003) (Nat.le_of_ble_eq_true rfl) (Nat.le_of_ble_eq_true rfl)
theorem EE2016 (G : XG) (Ω : XO) (i : Nat) : EE G Ω 2016 i = ra G 3 2 (fun j => ad G 1 (eli 2016 i j)) := EE_ar (k := 2016) (Nat.le_of_ble_eq_true rfl) (Nat.le_of_ble_eq_true rfl)
theorem PLr {G : XG} {Ω : XO} {k i : Nat} {e : va_E} (h : EE G Ω k i = e) : PL G Ω [(k, i)] = [(ad G k i, e)] := by
  show [(ad G k i, EE G Ω k i)] = _
  rw [h]
theorem pw8 {G : XG} {b i : Nat} (h : AO G b (tVa i)) : ceq (wY8 (gC G) b) (PL G oA (tVa i)) := by
  unfold tVa at h ⊢
  have h2 := h.r (n := 2) (b2 := b + 2) rfl rfl
  have h1 : ad G 2015 i = b + 1 := (h.l.r (n := 1) rfl rfl).z
  have h0 : ad G 8 i = b := h.l.l.z
  have h3 : ∀ v, v < 20 → AO G (b + 2 + 1 * v) [(9, 20 * i + v)] := fun v hv => AO.fm (m := 1) (fun _ => rfl) h2 v hv
  rw [PL_app, PL_app, PL_fm]
  unfold wY8
  refine ceq.app (ceq.app (ceq.eq ?_) ?_) (ceq.fm 20 fun v hv => ceq.eq (pw9 (h3 v hv)).symm)
  · show _ = [(ad G 8 i, EE G oA 8 i)]
    rw [EE8, h0, h1]
    rfl
  · rw [PLr (EE2015 G oA i)]
    rw [h1]
    exact ceq.row (f := fun j => b + 2 + 1 * j) (fun j hj => (h3 j hj).z.symm)
theorem pw2 {G : XG} {b i : Nat} (h : AO G b (tFi i)) : ceq (wY2 (gC G) b) (PL G oA (tFi i)) := by
  unfold tFi at h ⊢
  have h2 := h.r (n := 2) (b2 := b + 2) rfl rfl
  have h1 : ad G 2004 i = b + 1 := (h.l.r (n := 1) rfl rfl).z
  have h0 : ad G 2 i = b := h.l.l.z
  have h3 : ∀ v, v < 4 → AO G (b + 2 + 22 * v) (tVa (4 * i + v)) := fun v hv => AO.fm (m := 22) (fun _ => rfl) h2 v hv
  rw [PL_app, PL_app, PL_fm]
  unfold wY2
  refine ceq.app (ceq.app (ceq.eq ?_) ?_) (ceq.fm 4 fun v hv => pw8 (h3 v hv))
  · show _ = [(ad G 2 i, EE G oA 2 i)]
    rw [EE2, h0, h1]
    rfl
  · rw [PLr (EE2004 G oA i)]
    rw [h1]
    exact ceq.row (f := fun j => b + 2 + 22 * j) (fun j hj => ((h3 j hj) 0 _ rfl).symm)
theorem pw4 {G : XG} {b pr : Nat} (h : AO G b tMa) (hpr : ad G 5 0 = pr) : ceq (wY4 (gC G) b pr) (PL G oA tMa) := by
  unfold tMa at h ⊢
  have h5 := h.r (n := 10) (b2 := b + 10) rfl rfl
  have h4 := h.l.r (n := 2) (b2 := b + 2) rfl rfl
  have h1 : ad G 2007 0 = b + 1 := (h.l.l.r (n := 1) rfl rfl).z
  have h0 : ad G 4 0 = b := h.l.l.l.z
  have hb : ad G 0 48 = b + 2 := h4 0 _ rfl
  have hs : ad G 6 48 = b + 3 := h4 1 _ rfl
  have h3 : ∀ v, v < 4 → AO G (b + 10 + 8 * v) (tFr v) := fun v hv => AO.fm (m := 8) (fun _ => rfl) h5 v hv
  rw [PL_app, PL_app, PL_app, PL_fm]
  unfold wY4
  refine ceq.app (ceq.app (ceq.app (ceq.eq ?_) ?_) (ceq.eq (pw0 h4 rfl).symm)) (ceq.fm 4 fun v hv => ceq.eq (pw3 (h3 v hv)).symm)
  · show _ = [(ad G 4 0, EE G oA 4 0)]
    rw [EE4, h0, h1, hb, hpr, show xR oA 403 0 = 48 from rfl, show xR oA 404 0 = 48 from rfl, hb, hs]
    rfl
  · rw [PLr (EE2007 G oA 0)]
    rw [h1]
    refine ceq.row (f := fun j => b + 10 + 8 * j) (fun j hj => ?_)
    have e : ad G 3 j = b + 10 + 8 * j := (h3 j hj) 0 _ rfl
    rw [eli_2007]
    exact e.symm
theorem y_toX {G : XG} {B : XB} {cc : ByteArray} {own : String} {rm : Room} {nL : Nat} {P9 : va_W} (C : YC G B cc own rm nL P9) (hok : XK G) {pc : Nat} {lv : List (Nat × Value)} {st : List Value} {P : va_W} {cu su : Nat} {Ω Ω9 : XO} (hP : P = pl G Ω) (h9 : P9 = pl G Ω9) (k : ∀ B' : XB, XC G B' cc own rm nL none (.inl none) Ω9 → XW G B' nL pc lv st Ω cu su) : YW G B nL pc lv st P cu su := by
  obtain ⟨p, e, R, s, m, args, below, meth, c, Q⟩ := B
  obtain ⟨hx, hb, hml, ho, hts, hU, hin, hlk, hR, hret, hz0, htab, hQ⟩ := C
  intro H locs ls hz hln hC hP1 hS hl
  have k1 := k (p, e, R, s, m, args, below, meth, c, vx_MQ below (XQc G (.inl none) Ω9) (XXc G (.inl none) Ω9) args s rm.cells rm.slots (xA G)) ⟨hx, hb, hml, ho, hts, hU.1, hok, hlk, hR, hret, htab, rfl⟩ H locs ls (by rw [← hP]; exact hP1) hS hl
  intro T hT X
  obtain ⟨t, a1, o, b1, b2, b3⟩ := k1 T hT X
  refine ⟨t, a1, ?_⟩
  rw [hQ]
  refine ⟨o, b1, b2, ?_⟩
  rcases b3 with ⟨⟨o', ho', e1, e2, e3⟩, b4⟩ | ⟨q, e1, E, ce, L, ⟨h5, -⟩, -⟩
  · cases ho'
    exact Or.inl ⟨⟨e1, by rw [h9]; exact e2, e3⟩, b4⟩
  · cases h5
set_option maxRecDepth 100000 in
theorem tCh_len (c : Nat) : (tCh c).length = 325 := rfl
theorem ch0 {c v : Nat} (hv : v < 24) : (if 24 * c + v = 48 then -1 else nI ((24 * c + v) % 24)) = if 24 * c + v = 48 then -1 else nI v := by
  rw [show (24 * c + v) % 24 = v by omega]
set_option maxHeartbeats 4000000 in
set_option maxRecDepth 40000 in
theorem cY1 {G : XG} {c : Nat} (hc : c < 2) (hok : XK G) (hAO : AO G (gb G) (tCh c)) (hpl : ∀ Ω, pl G Ω = PL G Ω (tCh c)) (hdm : dm G 1 c) : YM G yX1_init cX1_init 2 ({ frames := 9, cells := 324, slots := 6186, locals := 540 }) [.ref (gb G)] [(gb G, .inr (1, [.null, .int 0, .null, .int 0, .int 0, .null]))] (PL G (fX0_becomeFirst oA (24 * c)) (tCh c)) := by
  refine y_start (lv := [(0, .ref (gb G))]) (own := RX1) (by decide +kernel) rfl rfl (Nat.le_of_ble_eq_true rfl) rfl (by unfold PL; rw [List.length_map]; exact tCh_len c) hAO.CW rfl (fun B C => ?_)
  have ex : YW G B 2 101 [(1, .int (nI 40)), (0, .ref (gb G))] [] ([(gb G, .inr (1, [.ref (gb G + 1), .int (1 : Int32), .ref (gb G + 2), .int 0, .int (1000 : Int32), .ref (gb G + 3)]))] ++ [(gb G + 1, .inl (gC G 2, 24, .inr (.inr (.inr (.inr (fun j => some ((fun j => gb G + 93 + 8 * j) j)))))))] ++ [(gb G + 2, .inl (gC G 5, 40, .inr (.inr (.inr (.inr (fun j => some ((fun j => gb G + 285 + 1 * j) j)))))))] ++ wY2 (gC G) (gb G + 3) ++ (List.range 24).flatMap (fun v => wY0 (gC G) (gb G + 93 + 8 * v) (nI v)) ++ (List.range 40).flatMap (fun v => wY7 (gC G) (gb G + 285 + 1 * v) (nI v))) (284 + 1 * 40) (5666 + 13 * 40) := by
    have e0 : ad G 1 c = gb G := hAO 0 _ rfl
    have hA := hAO
    unfold tCh at hA
    have h6 := hA.r (n := 285) (b2 := gb G + 285) rfl rfl
    have h5 := hA.l.r (n := 93) (b2 := gb G + 93) rfl rfl
    have h4 := hA.l.l.r (n := 3) (b2 := gb G + 3) rfl rfl
    have e2 : ad G 2003 c = gb G + 2 := (hA.l.l.l.r (n := 2) rfl rfl).z
    have e1 : ad G 2002 c = gb G + 1 := (hA.l.l.l.l.r (n := 1) rfl rfl).z
    have e3 : ad G 2 c = gb G + 3 := h4 0 _ rfl
    have hb : ∀ v, v < 24 → AO G (gb G + 93 + 8 * v) (tBl (24 * c + v)) := fun v hv => AO.fm (m := 8) (fun _ => rfl) h5 v hv
    have ht : ∀ v, v < 40 → AO G (gb G + 285 + 1 * v) [(7, 40 * c + v)] := fun v hv => AO.fm (m := 1) (fun _ => rfl) h6 v hv
    refine YW.ceq (P2 := PL G oA (tCh c)) ?_ hAO.CW ?_
    · unfold tCh
      rw [PL_app, PL_app, PL_app, PL_app, PL_app, PL_fm, PL_fm]
      refine ceq.app (ceq.app (ceq.app (ceq.app (ceq.app (ceq.eq ?_) ?_) ?_) (pw2 h4)) (ceq.fm 24 fun v hv => ceq.eq (pw0 (hb v hv) ?_).symm)) (ceq.fm 40 fun v hv => ceq.eq (pw7 (ht v hv) ?_).symm)
      · show _ = [(ad G 1 c, EE G oA 1 c)]
        rw [EE1, e0, e1, e2, e3]
        rfl
      · rw [PLr (EE2002 G oA c)]
        rw [e1]
        exact ceq.row (f := fun j => gb G + 93 + 8 * j) (fun j hj => ((hb j hj) 0 _ rfl).symm)
      · rw [PLr (EE2003 G oA c)]
        rw [e2]
        exact ceq.row (f := fun j => gb G + 285 + 1 * j) (fun j hj => (ht j hj).z.symm)
      · rw [if_neg (by omega), show (24 * c + v) % 24 = v by omega]
      · rw [show (40 * c + v) % 40 = v by omega]
    · refine y_toX C hok (hpl oA).symm (hpl _).symm (fun B' C => ?_)
      have hdm0 : dm G 2002 c := hok.2.2.2.1 1 0 c hdm (by decide) (by decide) rfl
      have key : XW G B' 2 101 [(1, .int (nI 40)), (0, .ref (ad G 1 c))] [] oA (284 + 1 * 40) (5666 + 13 * 40) := by
        refine x_aload_n (pc2 := 102) C dX1_init_101 1 rfl rfl rfl ?_
        refine x_getR (k2 := 2002) (i2 := c) (f := 100) (pc2 := 105) C hdm kf_1_11 dX1_init_102 rfl rfl rfl rfl rfl (fun _ => ?_)
        refine x_iconst (pc2 := 106) (v := 0) C dX1_init_105 rfl rfl ?_
        refine x_aald (k2 := 0) (i2 := 24 * c) (pc2 := 107) C hdm0 dX1_init_106 rfl rfl (nI_in (c := 0) (N := 24) (by decide) (by decide)) rfl (eli_2002 c 0) rfl (fun hd0 => ?_)
        refine x_ret (rest := []) (st2 := []) (pc2 := 110) (cu2 := 324) (su2 := 6186) (x_cV C hd0 (Nat.le_of_ble_eq_true rfl) kmX0_becomeFirst rfl kk_1_41 (tX0_becomeFirst hok hd0) rfl rfl (Nat.le_of_ble_eq_true rfl) ⟨Nat.le_of_ble_eq_true rfl, Nat.le_of_ble_eq_true rfl⟩ ⟨Nat.le_of_ble_eq_true rfl, Nat.le_of_ble_eq_true rfl⟩ dX1_init_107) rfl rfl rfl rfl ?_
        exact x_vreturn C dX1_init_110 rfl (Nat.le_of_ble_eq_true rfl) (Nat.le_of_ble_eq_true rfl) rfl rfl
      rw [e0] at key
      exact key
  have lp2 : ∀ (n v : Nat) (x : Int32), x = nI v → v + n = 40 → YW G B 2 75 [(1, .int (x)), (0, .ref (gb G))] [] ([(gb G, .inr (1, [.ref (gb G + 1), .int (1 : Int32), .ref (gb G + 2), .int 0, .int (1000 : Int32), .ref (gb G + 3)]))] ++ [(gb G + 1, .inl (gC G 2, 24, .inr (.inr (.inr (.inr (fun j => some ((fun j => gb G + 93 + 8 * j) j)))))))] ++ [(gb G + 2, .inl (gC G 5, 40, .inr (.inr (.inr (.inr (rf (fun j => gb G + 285 + 1 * j) v))))))] ++ wY2 (gC G) (gb G + 3) ++ (List.range 24).flatMap (fun v => wY0 (gC G) (gb G + 93 + 8 * v) (nI v)) ++ (List.range (v)).flatMap (fun v => wY7 (gC G) (gb G + 285 + 1 * v) (nI v))) (284 + 1 * v) (5666 + 13 * v) := by
    intro n
    induction n with
    | zero =>
      intro v x hx hv
      obtain rfl : v = 40 := by omega
      refine y_iload_n (pc2 := 76) C dX1_init_75 0 rfl rfl rfl ?_
      refine y_bipush (pc2 := 78) (v := (40 : Int32)) C dX1_init_76 rfl rfl ?_
      refine y_icmp_ge (tgt := 101) (pc2 := 81) C dX1_init_78 rfl rfl (fun _ => ?_) (fun h => absurd (by rw [hx]; decide) h)
      refine y_arr (q0 := 2) (g := fun j => some ((fun j => gb G + 285 + 1 * j) j)) (P2 := [(gb G, .inr (1, [.ref (gb G + 1), .int (1 : Int32), .ref (gb G + 2), .int 0, .int (1000 : Int32), .ref (gb G + 3)]))] ++ [(gb G + 1, .inl (gC G 2, 24, .inr (.inr (.inr (.inr (fun j => some ((fun j => gb G + 93 + 8 * j) j)))))))] ++ [(gb G + 2, .inl (gC G 5, 40, .inr (.inr (.inr (.inr (fun j => some ((fun j => gb G + 285 + 1 * j) j)))))))] ++ wY2 (gC G) (gb G + 3) ++ (List.range 24).flatMap (fun v => wY0 (gC G) (gb G + 93 + 8 * v) (nI v)) ++ (List.range (40)).flatMap (fun v => wY7 (gC G) (gb G + 285 + 1 * v) (nI v))) rfl (rfn _ _) rfl ?_
      subst hx
      exact ex
    | succ n ih =>
      intro v x hx hv
      have hv2 : v < 40 := by omega
      subst hx
      refine y_iload_n (pc2 := 76) C dX1_init_75 0 rfl rfl rfl ?_
      refine y_bipush (pc2 := 78) (v := (40 : Int32)) C dX1_init_76 rfl rfl ?_
      refine y_icmp_ge (tgt := 101) (pc2 := 81) C dX1_init_78 rfl rfl (fun h => absurd h (nI_ge hv2 (by decide))) (fun _ => ?_)
      refine y_aload_n (pc2 := 82) C dX1_init_81 1 rfl rfl rfl ?_
      refine y_get (kd := 1) (j := 2) (q0 := 0) (v := .ref (gb G + 2)) (pc2 := 85) C rfl (Nat.le_of_ble_eq_true rfl) (Nat.le_of_ble_eq_true rfl) kf_1_23 rfl dX1_init_82 rfl ?_
      refine y_iload_n (pc2 := 86) C dX1_init_85 0 rfl rfl rfl ?_
      have hlen : ([(gb G, .inr (1, [.ref (gb G + 1), .int (1 : Int32), .ref (gb G + 2), .int 0, .int (1000 : Int32), .ref (gb G + 3)]))] ++ [(gb G + 1, .inl (gC G 2, 24, .inr (.inr (.inr (.inr (fun j => some ((fun j => gb G + 93 + 8 * j) j)))))))] ++ [(gb G + 2, .inl (gC G 5, 40, .inr (.inr (.inr (.inr (rf (fun j => gb G + 285 + 1 * j) v))))))] ++ wY2 (gC G) (gb G + 3) ++ (List.range 24).flatMap (fun v => wY0 (gC G) (gb G + 93 + 8 * v) (nI v)) ++ (List.range (v)).flatMap (fun v => wY7 (gC G) (gb G + 285 + 1 * v) (nI v)) : va_W).length = 285 + 1 * v := by rw [List.length_append, fm_len (m := 1) (fun _ => rfl)]; exact congrArg (· + 1 * v) (by rw [List.length_append, fm_len (m := 8) (fun _ => rfl)]; rfl)
      refine y_new (kd := 7) (pc2 := 89) (q := gb G + 285 + 1 * v) (cu2 := 284 + 1 * v + 1) (su2 := 5666 + 13 * v + 13) C (Nat.le_of_ble_eq_true rfl) rfl rfl kn_1_21 yi_7 yz_7 dX1_init_86 yd_7 (by show 284 + 1 * v + 1 ≤ 324; omega) (by show 5666 + 13 * v + 13 ≤ 6186; omega) (by rw [hlen]; omega) rfl rfl rfl ?_
      refine y_dup (pc2 := 90) C dX1_init_89 rfl rfl ?_
      refine y_iload_n (pc2 := 91) C dX1_init_90 0 rfl rfl rfl ?_
      refine y_cI (pc2 := 94) (q := gb G + 285 + 1 * v) (cu2 := 284 + 1 * (v + 1)) (su2 := 5666 + 13 * (v + 1)) (As := [.int (nI v)]) (rest := [.ref (gb G + 285 + 1 * v), .int (nI v), .ref (gb G + 2)]) C kk_1_40 kmX7_init (cY7 (Gat G (gb G + 285 + 1 * v)) (nI v)) (by rw [hlen]; omega) rfl rfl (Nat.le_of_ble_eq_true rfl) ⟨(Nat.le_of_ble_eq_true rfl), (Nat.le_of_ble_eq_true rfl)⟩ ⟨by show 284 + 1 * v + 1 + 0 ≤ 324; omega, by show 5666 + 13 * v + 13 + 0 ≤ 6186; omega⟩ dX1_init_91 rfl (by show 284 + 1 * v + 1 + 0 = _; omega) (by show 5666 + 13 * v + 13 + 0 = _; omega) ?_
      refine y_aast (q0 := 2) (qk := 285 + 1 * v) (t := 5) (ci := 7) (N := 40) (N2 := v) (pc2 := 95) (P2 := [(gb G, .inr (1, [.ref (gb G + 1), .int (1 : Int32), .ref (gb G + 2), .int 0, .int (1000 : Int32), .ref (gb G + 3)]))] ++ [(gb G + 1, .inl (gC G 2, 24, .inr (.inr (.inr (.inr (fun j => some ((fun j => gb G + 93 + 8 * j) j)))))))] ++ [(gb G + 2, .inl (gC G 5, 40, .inr (.inr (.inr (.inr (rf (fun j => gb G + 285 + 1 * j) (v + 1)))))))] ++ wY2 (gC G) (gb G + 3) ++ (List.range 24).flatMap (fun v => wY0 (gC G) (gb G + 93 + 8 * v) (nI v)) ++ (List.range (v + 1)).flatMap (fun v => wY7 (gC G) (gb G + 285 + 1 * v) (nI v))) C rfl (app_at hlen rfl) (Nat.le_of_ble_eq_true rfl) rfl (nI_in hv2 (by decide)) (nI_clamp (by omega)) dX1_init_94 (by rw [rf1 (fun j => gb G + 285 + 1 * j) v, fm_succ (fun v => wY7 (gC G) (gb G + 285 + 1 * v) (nI v)) v, ← List.append_assoc]; rfl) rfl ?_
      refine y_iinc (pc2 := 98) (v := nI v + 1) (lv2 := [(1, .int (nI v + 1)), (0, .ref (gb G))]) C dX1_init_95 0 rfl rfl (by decide) rfl rfl ?_
      refine y_goto (tgt := 75) C dX1_init_98 rfl ?_
      exact ih (v + 1) (nI v + 1) (nI_1 v) (by omega)
  have ex1 : YW G B 2 73 [(1, .int (nI 24)), (0, .ref (gb G))] [] ([(gb G, .inr (1, [.ref (gb G + 1), .int (1 : Int32), .ref (gb G + 2), .int 0, .int (1000 : Int32), .ref (gb G + 3)]))] ++ [(gb G + 1, .inl (gC G 2, 24, .inr (.inr (.inr (.inr (fun j => some ((fun j => gb G + 93 + 8 * j) j)))))))] ++ [(gb G + 2, .inl (gC G 5, 40, .inr (.inr (.inr (.inr (fun _ => none))))))] ++ wY2 (gC G) (gb G + 3) ++ (List.range 24).flatMap (fun v => wY0 (gC G) (gb G + 93 + 8 * v) (nI v))) (92 + 8 * 24) (482 + 216 * 24) := by
    have l0 := lp2 40 0 0 rfl rfl
    rw [rf0, List.range_zero, List.flatMap_nil, List.append_nil] at l0
    refine y_iconst (pc2 := 74) (v := (0 : Int32)) C dX1_init_73 rfl rfl ?_
    refine y_istore_n (pc2 := 75) (lv2 := [(1, .int (0 : Int32)), (0, .ref (gb G))]) C dX1_init_74 rfl (by decide) rfl rfl ?_
    exact l0
  have lp : ∀ (n v : Nat) (x : Int32), x = nI v → v + n = 24 → YW G B 2 47 [(1, .int (x)), (0, .ref (gb G))] [] ([(gb G, .inr (1, [.ref (gb G + 1), .int (1 : Int32), .ref (gb G + 2), .int 0, .int (1000 : Int32), .ref (gb G + 3)]))] ++ [(gb G + 1, .inl (gC G 2, 24, .inr (.inr (.inr (.inr (rf (fun j => gb G + 93 + 8 * j) v))))))] ++ [(gb G + 2, .inl (gC G 5, 40, .inr (.inr (.inr (.inr (fun _ => none))))))] ++ wY2 (gC G) (gb G + 3) ++ (List.range (v)).flatMap (fun v => wY0 (gC G) (gb G + 93 + 8 * v) (nI v))) (92 + 8 * v) (482 + 216 * v) := by
    intro n
    induction n with
    | zero =>
      intro v x hx hv
      obtain rfl : v = 24 := by omega
      refine y_iload_n (pc2 := 48) C dX1_init_47 0 rfl rfl rfl ?_
      refine y_bipush (pc2 := 50) (v := (24 : Int32)) C dX1_init_48 rfl rfl ?_
      refine y_icmp_ge (tgt := 73) (pc2 := 53) C dX1_init_50 rfl rfl (fun _ => ?_) (fun h => absurd (by rw [hx]; decide) h)
      refine y_arr (q0 := 1) (g := fun j => some ((fun j => gb G + 93 + 8 * j) j)) (P2 := [(gb G, .inr (1, [.ref (gb G + 1), .int (1 : Int32), .ref (gb G + 2), .int 0, .int (1000 : Int32), .ref (gb G + 3)]))] ++ [(gb G + 1, .inl (gC G 2, 24, .inr (.inr (.inr (.inr (fun j => some ((fun j => gb G + 93 + 8 * j) j)))))))] ++ [(gb G + 2, .inl (gC G 5, 40, .inr (.inr (.inr (.inr (fun _ => none))))))] ++ wY2 (gC G) (gb G + 3) ++ (List.range (24)).flatMap (fun v => wY0 (gC G) (gb G + 93 + 8 * v) (nI v))) rfl (rfn _ _) rfl ?_
      subst hx
      exact ex1
    | succ n ih =>
      intro v x hx hv
      have hv2 : v < 24 := by omega
      subst hx
      refine y_iload_n (pc2 := 48) C dX1_init_47 0 rfl rfl rfl ?_
      refine y_bipush (pc2 := 50) (v := (24 : Int32)) C dX1_init_48 rfl rfl ?_
      refine y_icmp_ge (tgt := 73) (pc2 := 53) C dX1_init_50 rfl rfl (fun h => absurd h (nI_ge hv2 (by decide))) (fun _ => ?_)
      refine y_aload_n (pc2 := 54) C dX1_init_53 1 rfl rfl rfl ?_
      refine y_get (kd := 1) (j := 0) (q0 := 0) (v := .ref (gb G + 1)) (pc2 := 57) C rfl (Nat.le_of_ble_eq_true rfl) (Nat.le_of_ble_eq_true rfl) kf_1_11 rfl dX1_init_54 rfl ?_
      refine y_iload_n (pc2 := 58) C dX1_init_57 0 rfl rfl rfl ?_
      have hlen : ([(gb G, .inr (1, [.ref (gb G + 1), .int (1 : Int32), .ref (gb G + 2), .int 0, .int (1000 : Int32), .ref (gb G + 3)]))] ++ [(gb G + 1, .inl (gC G 2, 24, .inr (.inr (.inr (.inr (rf (fun j => gb G + 93 + 8 * j) v))))))] ++ [(gb G + 2, .inl (gC G 5, 40, .inr (.inr (.inr (.inr (fun _ => none))))))] ++ wY2 (gC G) (gb G + 3) ++ (List.range (v)).flatMap (fun v => wY0 (gC G) (gb G + 93 + 8 * v) (nI v)) : va_W).length = 93 + 8 * v := by rw [List.length_append, fm_len (m := 8) (fun _ => rfl)]; exact congrArg (· + 8 * v) (rfl)
      refine y_new (kd := 0) (pc2 := 61) (q := gb G + 93 + 8 * v) (cu2 := 92 + 8 * v + 1) (su2 := 482 + 216 * v + 18) C (Nat.le_of_ble_eq_true rfl) rfl rfl kn_1_9 yi_0 yz_0 dX1_init_58 yd_0 (by show 92 + 8 * v + 1 ≤ 324; omega) (by show 482 + 216 * v + 18 ≤ 6186; omega) (by rw [hlen]; omega) rfl rfl rfl ?_
      refine y_dup (pc2 := 62) C dX1_init_61 rfl rfl ?_
      refine y_iload_n (pc2 := 63) C dX1_init_62 0 rfl rfl rfl ?_
      refine y_cI (pc2 := 66) (q := gb G + 93 + 8 * v) (cu2 := 92 + 8 * (v + 1)) (su2 := 482 + 216 * (v + 1)) (As := [.int (nI v)]) (rest := [.ref (gb G + 93 + 8 * v), .int (nI v), .ref (gb G + 1)]) C kk_1_37 kmX0_init (cY0 (Gat G (gb G + 93 + 8 * v)) (nI v)) (by rw [hlen]; omega) rfl rfl (Nat.le_of_ble_eq_true rfl) ⟨(Nat.le_of_ble_eq_true rfl), (Nat.le_of_ble_eq_true rfl)⟩ ⟨by show 92 + 8 * v + 1 + 7 ≤ 324; omega, by show 482 + 216 * v + 18 + 198 ≤ 6186; omega⟩ dX1_init_63 rfl (by show 92 + 8 * v + 1 + 7 = _; omega) (by show 482 + 216 * v + 18 + 198 = _; omega) ?_
      refine y_aast (q0 := 1) (qk := 93 + 8 * v) (t := 2) (ci := 0) (N := 24) (N2 := v) (pc2 := 67) (P2 := [(gb G, .inr (1, [.ref (gb G + 1), .int (1 : Int32), .ref (gb G + 2), .int 0, .int (1000 : Int32), .ref (gb G + 3)]))] ++ [(gb G + 1, .inl (gC G 2, 24, .inr (.inr (.inr (.inr (rf (fun j => gb G + 93 + 8 * j) (v + 1)))))))] ++ [(gb G + 2, .inl (gC G 5, 40, .inr (.inr (.inr (.inr (fun _ => none))))))] ++ wY2 (gC G) (gb G + 3) ++ (List.range (v + 1)).flatMap (fun v => wY0 (gC G) (gb G + 93 + 8 * v) (nI v))) C rfl (app_at hlen rfl) (Nat.le_of_ble_eq_true rfl) rfl (nI_in hv2 (by decide)) (nI_clamp (by omega)) dX1_init_66 (by rw [rf1 (fun j => gb G + 93 + 8 * j) v, fm_succ (fun v => wY0 (gC G) (gb G + 93 + 8 * v) (nI v)) v, ← List.append_assoc]; rfl) rfl ?_
      refine y_iinc (pc2 := 70) (v := nI v + 1) (lv2 := [(1, .int (nI v + 1)), (0, .ref (gb G))]) C dX1_init_67 0 rfl rfl (by decide) rfl rfl ?_
      refine y_goto (tgt := 47) C dX1_init_70 rfl ?_
      exact ih (v + 1) (nI v + 1) (nI_1 v) (by omega)
  have l0 := lp 24 0 0 rfl rfl
  rw [rf0, List.range_zero, List.flatMap_nil, List.append_nil] at l0
  refine y_aload_n (pc2 := 1) C dX1_init_0 0 rfl rfl rfl ?_
  refine y_objInit (pc2 := 4) C kk_1_3 dX1_init_1 (Nat.le_of_ble_eq_true rfl) (Nat.le_of_ble_eq_true rfl) rfl ?_
  refine y_aload_n (pc2 := 5) C dX1_init_4 0 rfl rfl rfl ?_
  refine y_bipush (pc2 := 7) (v := (24 : Int32)) C dX1_init_5 rfl rfl ?_
  refine y_newq (pc2 := 10) (q := gb G + 1) (N := 24) (t := 2) (cu2 := 1) (su2 := 24) C rfl (by decide) kn_1_9 dX1_init_7 (by decide) rfl (Nat.le_of_ble_eq_true rfl) (Nat.le_of_ble_eq_true rfl) (Nat.le_of_ble_eq_true rfl) rfl rfl rfl rfl ?_
  refine y_putF (kd := 1) (j := 0) (q0 := 0) (pc2 := 13) (P2 := [(gb G, .inr (1, [.ref (gb G + 1), .int 0, .null, .int 0, .int 0, .null]))] ++ [(gb G + 1, .inl (gC G 2, 24, .inr (.inr (.inr (.inr (fun _ => none))))))]) C rfl (Nat.le_of_ble_eq_true rfl) (Nat.le_of_ble_eq_true rfl) kf_1_11 rfl rfl rfl rfl rfl dX1_init_10 rfl rfl ?_
  refine y_aload_n (pc2 := 14) C dX1_init_13 0 rfl rfl rfl ?_
  refine y_iconst (pc2 := 15) (v := (1 : Int32)) C dX1_init_14 rfl rfl ?_
  refine y_put (kd := 1) (j := 1) (q0 := 0) (pc2 := 18) (P2 := [(gb G, .inr (1, [.ref (gb G + 1), .int (1 : Int32), .null, .int 0, .int 0, .null]))] ++ [(gb G + 1, .inl (gC G 2, 24, .inr (.inr (.inr (.inr (fun _ => none))))))]) C rfl (Nat.le_of_ble_eq_true rfl) (Nat.le_of_ble_eq_true rfl) kf_1_17 rfl rfl rfl rfl rfl dX1_init_15 rfl rfl ?_
  refine y_aload_n (pc2 := 19) C dX1_init_18 0 rfl rfl rfl ?_
  refine y_bipush (pc2 := 21) (v := (40 : Int32)) C dX1_init_19 rfl rfl ?_
  refine y_newq (pc2 := 24) (q := gb G + 2) (N := 40) (t := 5) (cu2 := 2) (su2 := 64) C rfl (by decide) kn_1_21 dX1_init_21 (by decide) rfl (Nat.le_of_ble_eq_true rfl) (Nat.le_of_ble_eq_true rfl) (Nat.le_of_ble_eq_true rfl) rfl rfl rfl rfl ?_
  refine y_putF (kd := 1) (j := 2) (q0 := 0) (pc2 := 27) (P2 := [(gb G, .inr (1, [.ref (gb G + 1), .int (1 : Int32), .ref (gb G + 2), .int 0, .int 0, .null]))] ++ [(gb G + 1, .inl (gC G 2, 24, .inr (.inr (.inr (.inr (fun _ => none))))))] ++ [(gb G + 2, .inl (gC G 5, 40, .inr (.inr (.inr (.inr (fun _ => none))))))]) C rfl (Nat.le_of_ble_eq_true rfl) (Nat.le_of_ble_eq_true rfl) kf_1_23 rfl rfl rfl rfl rfl dX1_init_24 rfl rfl ?_
  refine y_aload_n (pc2 := 28) C dX1_init_27 0 rfl rfl rfl ?_
  refine y_sipush (pc2 := 31) (v := (1000 : Int32)) C dX1_init_28 rfl rfl ?_
  refine y_put (kd := 1) (j := 4) (q0 := 0) (pc2 := 34) (P2 := [(gb G, .inr (1, [.ref (gb G + 1), .int (1 : Int32), .ref (gb G + 2), .int 0, .int (1000 : Int32), .null]))] ++ [(gb G + 1, .inl (gC G 2, 24, .inr (.inr (.inr (.inr (fun _ => none))))))] ++ [(gb G + 2, .inl (gC G 5, 40, .inr (.inr (.inr (.inr (fun _ => none))))))]) C rfl (Nat.le_of_ble_eq_true rfl) (Nat.le_of_ble_eq_true rfl) kf_1_27 rfl rfl rfl rfl rfl dX1_init_31 rfl rfl ?_
  refine y_aload_n (pc2 := 35) C dX1_init_34 0 rfl rfl rfl ?_
  refine y_new (kd := 2) (pc2 := 38) (q := gb G + 3) (cu2 := 3) (su2 := 66) C (Nat.le_of_ble_eq_true rfl) rfl rfl kn_1_30 yi_2 yz_2 dX1_init_35 yd_2 (Nat.le_of_ble_eq_true rfl) (Nat.le_of_ble_eq_true rfl) rfl rfl rfl rfl ?_
  refine y_dup (pc2 := 39) C dX1_init_38 rfl rfl ?_
  refine y_cI (P := [(gb G, .inr (1, [.ref (gb G + 1), .int (1 : Int32), .ref (gb G + 2), .int 0, .int (1000 : Int32), .null]))] ++ [(gb G + 1, .inl (gC G 2, 24, .inr (.inr (.inr (.inr (fun _ => none))))))] ++ [(gb G + 2, .inl (gC G 5, 40, .inr (.inr (.inr (.inr (fun _ => none))))))]) (pc2 := 42) (q := gb G + 3) (cu2 := 92) (su2 := 482) (As := []) (rest := [.ref (gb G + 3), .ref (gb G)]) C kk_1_32 kmX2_init (cY2 (Gat G (gb G + 3))) rfl rfl rfl (Nat.le_of_ble_eq_true rfl) ⟨(Nat.le_of_ble_eq_true rfl), (Nat.le_of_ble_eq_true rfl)⟩ ⟨(Nat.le_of_ble_eq_true rfl), (Nat.le_of_ble_eq_true rfl)⟩ dX1_init_39 rfl rfl rfl ?_
  refine y_putF (kd := 1) (j := 5) (q0 := 0) (pc2 := 45) (P2 := [(gb G, .inr (1, [.ref (gb G + 1), .int (1 : Int32), .ref (gb G + 2), .int 0, .int (1000 : Int32), .ref (gb G + 3)]))] ++ [(gb G + 1, .inl (gC G 2, 24, .inr (.inr (.inr (.inr (fun _ => none))))))] ++ [(gb G + 2, .inl (gC G 5, 40, .inr (.inr (.inr (.inr (fun _ => none))))))] ++ wY2 (gC G) (gb G + 3)) C rfl (Nat.le_of_ble_eq_true rfl) (Nat.le_of_ble_eq_true rfl) kf_1_33 rfl rfl rfl rfl rfl dX1_init_42 rfl rfl ?_
  refine y_iconst (pc2 := 46) (v := (0 : Int32)) C dX1_init_45 rfl rfl ?_
  refine y_istore_n (pc2 := 47) (lv2 := [(1, .int (0 : Int32)), (0, .ref (gb G))]) C dX1_init_46 rfl (by decide) rfl rfl ?_
  exact l0
def ik (f : Nat) : Nat := if f < 2000 then f / 100 else f
/-- the class's world at first -/
def oI : XO := (fun f i j => if (ik f, i) ∈ tCh 1 then (fX0_becomeFirst oA 24).1 f i j else if (ik f, i) ∈ tCh 0 then (fX0_becomeFirst oA 0).1 f i j else oA.1 f i j, fun f i j => if (ik f, i) ∈ tCh 1 then (fX0_becomeFirst oA 24).2.1 f i j else if (ik f, i) ∈ tCh 0 then (fX0_becomeFirst oA 0).2.1 f i j else oA.2.1 f i j, fun f i => if (ik f, i) ∈ tCh 1 then (fX0_becomeFirst oA 24).2.2 f i else if (ik f, i) ∈ tCh 0 then (fX0_becomeFirst oA 0).2.2 f i else oA.2.2 f i)
theorem ik_f {k j : Nat} (hk : k < 11) (hj : j < 100) : ik (100 * k + j) = k := by
  unfold ik
  rw [if_pos (by omega)]
  omega
theorem ik_a {k : Nat} (hk : 2000 ≤ k) : ik k = k := if_neg (by omega)
theorem chk_mem {l : List (Nat × Nat)} {p n : Nat} (h : chk l p = true) (hn : l.length = n) {x : Nat × Nat} (hx : x ∈ l) : p ≤ pos x.1 x.2 ∧ pos x.1 x.2 < p + n := by
  obtain ⟨q, hq⟩ := List.getElem?_of_mem hx
  have := chk_ok l p h q x hq
  have hl := (List.getElem?_eq_some_iff.mp hq).1
  omega
set_option maxRecDepth 40000 in
theorem chk_c0 : chk (tCh 0) 48 = true := by decide +kernel
set_option maxRecDepth 40000 in
theorem chk_c1 : chk (tCh 1) 373 = true := by decide +kernel
def tAh : List (Nat × Nat) := [(10, 0)] ++ tPr ++ tMa ++ [(2016, 0)]
set_option maxRecDepth 40000 in
theorem chk_ah : chk tAh 0 = true := by decide +kernel
theorem alk_1 {x : Nat × Nat} (hx : x ∈ tCh 1) : alk x.1 x.2 (fX0_becomeFirst oA 24) oI := by
  refine ⟨fun hk j hj => ?_, fun hk => ?_⟩
  · have e : (ik (100 * x.1 + j), x.2) ∈ tCh 1 := by rw [ik_f hk hj]; exact hx
    exact ⟨(funext fun a => (if_pos e).symm), (funext fun a => (if_pos e).symm), (if_pos e).symm⟩
  · have e : (ik x.1, x.2) ∈ tCh 1 := by rw [ik_a hk]; exact hx
    exact ⟨(funext fun a => (if_pos e).symm), (funext fun a => (if_pos e).symm)⟩
theorem alk_0 {x : Nat × Nat} (hx : x ∈ tCh 0) : alk x.1 x.2 (fX0_becomeFirst oA 0) oI := by
  have hn : x ∉ tCh 1 := fun h => by
    have := chk_mem chk_c0 (tCh_len 0) hx
    have := chk_mem chk_c1 (tCh_len 1) h
    omega
  refine ⟨fun hk j hj => ?_, fun hk => ?_⟩
  · have e : (ik (100 * x.1 + j), x.2) ∈ tCh 0 := by rw [ik_f hk hj]; exact hx
    have e2 : ¬ (ik (100 * x.1 + j), x.2) ∈ tCh 1 := by rw [ik_f hk hj]; exact hn
    exact ⟨(funext fun a => ((if_neg e2).trans (if_pos e)).symm), (funext fun a => ((if_neg e2).trans (if_pos e)).symm), ((if_neg e2).trans (if_pos e)).symm⟩
  · have e : (ik x.1, x.2) ∈ tCh 0 := by rw [ik_a hk]; exact hx
    have e2 : ¬ (ik x.1, x.2) ∈ tCh 1 := by rw [ik_a hk]; exact hn
    exact ⟨(funext fun a => ((if_neg e2).trans (if_pos e)).symm), (funext fun a => ((if_neg e2).trans (if_pos e)).symm)⟩
theorem alk_A {x : Nat × Nat} (hx : x ∈ tAh) : alk x.1 x.2 oA oI := by
  have hn : x ∉ tCh 1 := fun h => by
    have := chk_mem chk_ah (n := 48) rfl hx
    have := chk_mem chk_c1 (tCh_len 1) h
    omega
  have hm : x ∉ tCh 0 := fun h => by
    have := chk_mem chk_ah (n := 48) rfl hx
    have := chk_mem chk_c0 (tCh_len 0) h
    omega
  refine ⟨fun hk j hj => ?_, fun hk => ?_⟩
  · have e : ¬ (ik (100 * x.1 + j), x.2) ∈ tCh 0 := by rw [ik_f hk hj]; exact hm
    have e2 : ¬ (ik (100 * x.1 + j), x.2) ∈ tCh 1 := by rw [ik_f hk hj]; exact hn
    exact ⟨(funext fun a => ((if_neg e2).trans (if_neg e)).symm), (funext fun a => ((if_neg e2).trans (if_neg e)).symm), ((if_neg e2).trans (if_neg e)).symm⟩
  · have e : ¬ (ik x.1, x.2) ∈ tCh 0 := by rw [ik_a hk]; exact hm
    have e2 : ¬ (ik x.1, x.2) ∈ tCh 1 := by rw [ik_a hk]; exact hn
    exact ⟨(funext fun a => ((if_neg e2).trans (if_neg e)).symm), (funext fun a => ((if_neg e2).trans (if_neg e)).symm)⟩
set_option maxHeartbeats 4000000 in
set_option maxRecDepth 40000 in
theorem cY10 {G : XG} (hAO : AO G (gb G) tFB) (hC : ∀ c, c < 2 → YM (Gat G (gb G + 48 + 325 * c)) yX1_init cX1_init 2 ({ frames := 9, cells := 324, slots := 6186, locals := 540 }) [.ref (gb G + 48 + 325 * c)] [(gb G + 48 + 325 * c, .inr (1, [.null, .int 0, .null, .int 0, .int 0, .null]))] (PL G (fX0_becomeFirst oA (24 * c)) (tCh c))) : YM G yX10_init cX10_init 3 ({ frames := 10, cells := 697, slots := 13602, locals := 600 }) [.ref (gb G)] [(gb G, .inr (10, [.null, .null, .null]))] (PL G oI tFB) := by
  refine y_start (lv := [(0, .ref (gb G))]) (own := RX10) (by decide +kernel) rfl rfl (Nat.le_of_ble_eq_true rfl) rfl (by unfold PL; rw [List.length_map]; rfl) hAO.CW rfl (fun B C => ?_)
  have hA := hAO
  unfold tFB at hA
  have h5 := hA.r (n := 48) (b2 := gb G + 48) rfl rfl
  have e4 : ad G 2016 0 = gb G + 47 := (hA.l.r (n := 47) rfl rfl).z
  have h3 := hA.l.l.r (n := 5) (b2 := gb G + 5) rfl rfl
  have h2 := hA.l.l.l.r (n := 1) (b2 := gb G + 1) rfl rfl
  have e0 : ad G 10 0 = gb G := hA.l.l.l.l.z
  have e1 : ad G 5 0 = gb G + 1 := h2 0 _ rfl
  have e2 : ad G 4 0 = gb G + 5 := h3 0 _ rfl
  have hch : ∀ v, v < 2 → AO G (gb G + 48 + 325 * v) (tCh v) := fun v hv => AO.fm (m := 325) tCh_len h5 v hv
  have hx0 : ∀ v, v < 2 → (PL G (fX0_becomeFirst oA (24 * v)) (tCh v))[0]? = some (gb G + 48 + 325 * v, .inr (1, [.ref (ad G 2002 v), .int (xI (fX0_becomeFirst oA (24 * v)) 101 v 0), .ref (ad G 2003 v), .int (xI (fX0_becomeFirst oA (24 * v)) 103 v 0), .int (xI (fX0_becomeFirst oA (24 * v)) 104 v 0), .ref (ad G 2 v)])) := fun v hv => by
    have e : ad G 1 v = gb G + 48 + 325 * v := hch v hv 0 _ rfl
    show some (ad G 1 v, EE G (fX0_becomeFirst oA (24 * v)) 1 v) = _
    rw [EE1, e]
  have hF : ∀ v, ((fun v => PL G (fX0_becomeFirst oA (24 * v)) (tCh v)) v).length = 325 := fun v => by show (PL G _ (tCh v)).length = 325; unfold PL; rw [List.length_map, tCh_len]
  have ex : YW G B 3 63 [(2, .int (nI 2)), (1, .ref (gb G + 1)), (0, .ref (gb G))] [] ([(gb G, .inr (10, [.ref (gb G + 1), .ref (gb G + 5), .ref (gb G + 47)]))] ++ wY5 (gC G) (gb G + 1) ++ wY4 (gC G) (gb G + 5) ((gb G + 1)) ++ [(gb G + 47, .inl (gC G 3, 2, .inr (.inr (.inr (.inr (fun j => some ((fun j => gb G + 48 + 325 * j) j)))))))] ++ (List.range 2).flatMap (fun v => PL G (fX0_becomeFirst oA (24 * v)) (tCh v))) (47 + 325 * 2) (1218 + 6192 * 2) := by
    refine YW.ceq (P2 := PL G oI tFB) ?_ hAO.CW (y_ret C dX10_init_63 (Nat.le_of_ble_eq_true rfl) (Nat.le_of_ble_eq_true rfl) rfl)
    unfold tFB
    rw [PL_app, PL_app, PL_app, PL_app, PL_fm]
    refine ceq.app (ceq.app (ceq.app (ceq.app (ceq.eq ?_) (ceq.eq ?_)) ?_) ?_) (ceq.fm 2 fun v hv => ceq.eq ?_)
    · rw [← PL_alk (Ω := oA) (fun x hx => alk_A (List.mem_append_left _ (List.mem_append_left _ (List.mem_append_left _ hx))))]
      show _ = [(ad G 10 0, EE G oA 10 0)]
      rw [EE10, e0, e1, e2, e4]
    · rw [← PL_alk (Ω := oA) (fun x hx => alk_A (List.mem_append_left _ (List.mem_append_left _ (List.mem_append_right _ hx))))]
      exact (pw5 h2).symm
    · rw [← PL_alk (Ω := oA) (fun x hx => alk_A (List.mem_append_left _ (List.mem_append_right _ hx)))]
      exact pw4 h3 e1
    · rw [PLr (EE2016 G oI 0)]
      rw [e4]
      refine ceq.row (f := fun j => gb G + 48 + 325 * j) (fun j hj => ?_)
      have e : ad G 1 j = gb G + 48 + 325 * j := hch j hj 0 _ rfl
      rw [eli_2016]
      exact e.symm
    · rcases (show v = 0 ∨ v = 1 by omega) with rfl | rfl
      · exact PL_alk (fun x hx => alk_0 hx)
      · exact PL_alk (fun x hx => alk_1 hx)
  have lp : ∀ (n v : Nat) (x : Int32), x = nI v → v + n = 2 → YW G B 3 39 [(2, .int (x)), (1, .ref (gb G + 1)), (0, .ref (gb G))] [] ([(gb G, .inr (10, [.ref (gb G + 1), .ref (gb G + 5), .ref (gb G + 47)]))] ++ wY5 (gC G) (gb G + 1) ++ wY4 (gC G) (gb G + 5) ((gb G + 1)) ++ [(gb G + 47, .inl (gC G 3, 2, .inr (.inr (.inr (.inr (rf (fun j => gb G + 48 + 325 * j) v))))))] ++ (List.range (v)).flatMap (fun v => PL G (fX0_becomeFirst oA (24 * v)) (tCh v))) (47 + 325 * v) (1218 + 6192 * v) := by
    intro n
    induction n with
    | zero =>
      intro v x hx hv
      obtain rfl : v = 2 := by omega
      refine y_iload_n (pc2 := 40) C dX10_init_39 0 rfl rfl rfl ?_
      refine y_iconst (pc2 := 41) (v := (2 : Int32)) C dX10_init_40 rfl rfl ?_
      refine y_icmp_ge (tgt := 63) (pc2 := 44) C dX10_init_41 rfl rfl (fun _ => ?_) (fun h => absurd (by rw [hx]; decide) h)
      refine y_arr (q0 := 47) (g := fun j => some ((fun j => gb G + 48 + 325 * j) j)) (P2 := [(gb G, .inr (10, [.ref (gb G + 1), .ref (gb G + 5), .ref (gb G + 47)]))] ++ wY5 (gC G) (gb G + 1) ++ wY4 (gC G) (gb G + 5) ((gb G + 1)) ++ [(gb G + 47, .inl (gC G 3, 2, .inr (.inr (.inr (.inr (fun j => some ((fun j => gb G + 48 + 325 * j) j)))))))] ++ (List.range (2)).flatMap (fun v => PL G (fX0_becomeFirst oA (24 * v)) (tCh v))) rfl (rfn _ _) rfl ?_
      subst hx
      exact ex
    | succ n ih =>
      intro v x hx hv
      have hv2 : v < 2 := by omega
      subst hx
      refine y_iload_n (pc2 := 40) C dX10_init_39 0 rfl rfl rfl ?_
      refine y_iconst (pc2 := 41) (v := (2 : Int32)) C dX10_init_40 rfl rfl ?_
      refine y_icmp_ge (tgt := 63) (pc2 := 44) C dX10_init_41 rfl rfl (fun h => absurd h (nI_ge hv2 (by decide))) (fun _ => ?_)
      refine y_aload_n (pc2 := 45) C dX10_init_44 2 rfl rfl rfl ?_
      refine y_get (kd := 10) (j := 2) (q0 := 0) (v := .ref (gb G + 47)) (pc2 := 48) C rfl (Nat.le_of_ble_eq_true rfl) (Nat.le_of_ble_eq_true rfl) kf_10_27 rfl dX10_init_45 rfl ?_
      refine y_iload_n (pc2 := 49) C dX10_init_48 0 rfl rfl rfl ?_
      have hlen : ([(gb G, .inr (10, [.ref (gb G + 1), .ref (gb G + 5), .ref (gb G + 47)]))] ++ wY5 (gC G) (gb G + 1) ++ wY4 (gC G) (gb G + 5) ((gb G + 1)) ++ [(gb G + 47, .inl (gC G 3, 2, .inr (.inr (.inr (.inr (rf (fun j => gb G + 48 + 325 * j) v))))))] ++ (List.range (v)).flatMap (fun v => PL G (fX0_becomeFirst oA (24 * v)) (tCh v)) : va_W).length = 48 + 325 * v := by rw [List.length_append, fm_len (m := 325) hF]; exact congrArg (· + 325 * v) (rfl)
      refine y_new (kd := 1) (pc2 := 52) (q := gb G + 48 + 325 * v) (cu2 := 47 + 325 * v + 1) (su2 := 1218 + 6192 * v + 6) C (Nat.le_of_ble_eq_true rfl) rfl rfl kn_10_25 yi_1 yz_1 dX10_init_49 yd_1 (by show 47 + 325 * v + 1 ≤ 697; omega) (by show 1218 + 6192 * v + 6 ≤ 13602; omega) (by rw [hlen]; omega) rfl rfl rfl ?_
      refine y_dup (pc2 := 53) C dX10_init_52 rfl rfl ?_
      refine y_cI (pc2 := 56) (q := gb G + 48 + 325 * v) (cu2 := 47 + 325 * (v + 1)) (su2 := 1218 + 6192 * (v + 1)) (As := []) (rest := [.ref (gb G + 48 + 325 * v), .int (nI v), .ref (gb G + 47)]) C kk_10_31 kmX1_init (hC v hv2) (by rw [hlen]; omega) rfl rfl (Nat.le_of_ble_eq_true rfl) ⟨(Nat.le_of_ble_eq_true rfl), (Nat.le_of_ble_eq_true rfl)⟩ ⟨by show 47 + 325 * v + 1 + 324 ≤ 697; omega, by show 1218 + 6192 * v + 6 + 6186 ≤ 13602; omega⟩ dX10_init_53 rfl (by show 47 + 325 * v + 1 + 324 = _; omega) (by show 1218 + 6192 * v + 6 + 6186 = _; omega) ?_
      refine y_aast (q0 := 47) (qk := 48 + 325 * v) (t := 3) (ci := 1) (N := 2) (N2 := v) (pc2 := 57) (P2 := [(gb G, .inr (10, [.ref (gb G + 1), .ref (gb G + 5), .ref (gb G + 47)]))] ++ wY5 (gC G) (gb G + 1) ++ wY4 (gC G) (gb G + 5) ((gb G + 1)) ++ [(gb G + 47, .inl (gC G 3, 2, .inr (.inr (.inr (.inr (rf (fun j => gb G + 48 + 325 * j) (v + 1)))))))] ++ (List.range (v + 1)).flatMap (fun v => PL G (fX0_becomeFirst oA (24 * v)) (tCh v))) C rfl (app_at hlen (hx0 v hv2)) (Nat.le_of_ble_eq_true rfl) rfl (nI_in hv2 (by decide)) (nI_clamp (by omega)) dX10_init_56 (by rw [rf1 (fun j => gb G + 48 + 325 * j) v, fm_succ (fun v => PL G (fX0_becomeFirst oA (24 * v)) (tCh v)) v, ← List.append_assoc]; rfl) rfl ?_
      refine y_iinc (pc2 := 60) (v := nI v + 1) (lv2 := [(2, .int (nI v + 1)), (1, .ref (gb G + 1)), (0, .ref (gb G))]) C dX10_init_57 0 rfl rfl (by decide) rfl rfl ?_
      refine y_goto (tgt := 39) C dX10_init_60 rfl ?_
      exact ih (v + 1) (nI v + 1) (nI_1 v) (by omega)
  have l0 := lp 2 0 0 rfl rfl
  rw [rf0, List.range_zero, List.flatMap_nil, List.append_nil] at l0
  refine y_aload_n (pc2 := 1) C dX10_init_0 0 rfl rfl rfl ?_
  refine y_objInit (pc2 := 4) C kk_10_1 dX10_init_1 (Nat.le_of_ble_eq_true rfl) (Nat.le_of_ble_eq_true rfl) rfl ?_
  refine y_new (kd := 5) (pc2 := 7) (q := gb G + 1) (cu2 := 1) (su2 := 3) C (Nat.le_of_ble_eq_true rfl) rfl rfl kn_10_7 yi_5 yz_5 dX10_init_4 yd_5 (Nat.le_of_ble_eq_true rfl) (Nat.le_of_ble_eq_true rfl) rfl rfl rfl rfl ?_
  refine y_dup (pc2 := 8) C dX10_init_7 rfl rfl ?_
  refine y_cIN (P := [(gb G, .inr (10, [.null, .null, .null]))]) (pc2 := 11) (q := gb G + 1) (cu2 := 4) (su2 := 331) (As := []) (rest := [.ref (gb G + 1)]) C ke_10_9 kmX5_init (cY5 (Gat G (gb G + 1))) rfl rfl rfl (Nat.le_of_ble_eq_true rfl) ⟨(Nat.le_of_ble_eq_true rfl), (Nat.le_of_ble_eq_true rfl)⟩ ⟨(Nat.le_of_ble_eq_true rfl), (Nat.le_of_ble_eq_true rfl)⟩ dX10_init_8 rfl rfl rfl ?_
  refine y_astore_n (pc2 := 12) (lv2 := [(1, .ref (gb G + 1)), (0, .ref (gb G))]) C dX10_init_11 rfl (by decide) rfl rfl ?_
  refine y_aload_n (pc2 := 13) C dX10_init_12 1 rfl rfl rfl ?_
  refine y_aload_n (pc2 := 14) C dX10_init_13 0 rfl rfl rfl ?_
  refine y_putF (kd := 10) (j := 0) (q0 := 0) (pc2 := 17) (P2 := [(gb G, .inr (10, [.ref (gb G + 1), .null, .null]))] ++ wY5 (gC G) (gb G + 1)) C rfl (Nat.le_of_ble_eq_true rfl) (Nat.le_of_ble_eq_true rfl) kf_10_10 rfl rfl rfl rfl rfl dX10_init_14 rfl rfl ?_
  refine y_aload_n (pc2 := 18) C dX10_init_17 1 rfl rfl rfl ?_
  refine y_new (kd := 4) (pc2 := 21) (q := gb G + 5) (cu2 := 5) (su2 := 340) C (Nat.le_of_ble_eq_true rfl) rfl rfl kn_10_16 yi_4 yz_4 dX10_init_18 yd_4 (Nat.le_of_ble_eq_true rfl) (Nat.le_of_ble_eq_true rfl) rfl rfl rfl rfl ?_
  refine y_dup (pc2 := 22) C dX10_init_21 rfl rfl ?_
  refine y_aload_n (pc2 := 23) C dX10_init_22 0 rfl rfl rfl ?_
  refine y_cI (P := [(gb G, .inr (10, [.ref (gb G + 1), .null, .null]))] ++ wY5 (gC G) (gb G + 1)) (pc2 := 26) (q := gb G + 5) (cu2 := 46) (su2 := 1216) (As := [.ref (gb G + 1)]) (rest := [.ref (gb G + 5), .ref (gb G)]) C kk_10_18 kmX4_init (cY4 (Gat G (gb G + 5)) ((gb G + 1))) rfl rfl rfl (Nat.le_of_ble_eq_true rfl) ⟨(Nat.le_of_ble_eq_true rfl), (Nat.le_of_ble_eq_true rfl)⟩ ⟨(Nat.le_of_ble_eq_true rfl), (Nat.le_of_ble_eq_true rfl)⟩ dX10_init_23 rfl rfl rfl ?_
  refine y_putF (kd := 10) (j := 1) (q0 := 0) (pc2 := 29) (P2 := [(gb G, .inr (10, [.ref (gb G + 1), .ref (gb G + 5), .null]))] ++ wY5 (gC G) (gb G + 1) ++ wY4 (gC G) (gb G + 5) ((gb G + 1))) C rfl (Nat.le_of_ble_eq_true rfl) (Nat.le_of_ble_eq_true rfl) kf_10_21 rfl rfl rfl rfl rfl dX10_init_26 rfl rfl ?_
  refine y_aload_n (pc2 := 30) C dX10_init_29 1 rfl rfl rfl ?_
  refine y_iconst (pc2 := 31) (v := (2 : Int32)) C dX10_init_30 rfl rfl ?_
  refine y_newq (pc2 := 34) (q := gb G + 47) (N := 2) (t := 3) (cu2 := 47) (su2 := 1218) C rfl (by decide) kn_10_25 dX10_init_31 (by decide) rfl (Nat.le_of_ble_eq_true rfl) (Nat.le_of_ble_eq_true rfl) (Nat.le_of_ble_eq_true rfl) rfl rfl rfl rfl ?_
  refine y_putF (kd := 10) (j := 2) (q0 := 0) (pc2 := 37) (P2 := [(gb G, .inr (10, [.ref (gb G + 1), .ref (gb G + 5), .ref (gb G + 47)]))] ++ wY5 (gC G) (gb G + 1) ++ wY4 (gC G) (gb G + 5) ((gb G + 1)) ++ [(gb G + 47, .inl (gC G 3, 2, .inr (.inr (.inr (.inr (fun _ => none))))))]) C rfl (Nat.le_of_ble_eq_true rfl) (Nat.le_of_ble_eq_true rfl) kf_10_27 rfl rfl rfl rfl rfl dX10_init_34 rfl rfl ?_
  refine y_iconst (pc2 := 38) (v := (0 : Int32)) C dX10_init_37 rfl rfl ?_
  refine y_istore_n (pc2 := 39) (lv2 := [(2, .int (0 : Int32)), (1, .ref (gb G + 1)), (0, .ref (gb G))]) C dX10_init_38 rfl (by decide) rfl rfl ?_
  exact l0
