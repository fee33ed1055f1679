theorem z_sipush {G : XG} {B : XB} {cc : ByteArray} {own : String} {rm : Room} {nL : Nat} (C : XZ G B cc own rm nL) {pc : Nat} {lv : List (Nat × Value)} {st : List Value} {Ω : XO} {cu su : Nat} {n : Int} {v : Int32} (hd : decode cc pc = .ok (.sipush n, 3)) (hv : (Int16.ofInt n).toInt32 = v) {pc2 : Nat} (hp : pc + 3 = pc2) (k : XW G B nL pc2 lv (.int v :: st) Ω cu su) : XW G B nL pc lv st Ω cu su := by
  obtain ⟨p, e, R, s, m, args, below, meth, c, Q⟩ := B
  obtain ⟨hx, hb, hml, ho, hts, hU, hok, hlk, hR, hret, htab, hQ⟩ := C
  subst hp
  intro H locs ls hP hS hl
  exact lv_sipush hx hb hd hv (k H locs ls hP hS hl)
theorem z_imul {G : XG} {B : XB} {cc : ByteArray} {own : String} {rm : Room} {nL : Nat} (C : XZ G B cc own rm nL) {pc : Nat} {lv : List (Nat × Value)} {st : List Value} {Ω : XO} {cu su : Nat} {x y : Int32} (hd : decode cc pc = .ok (.imul, 1))  {pc2 : Nat} (hp : pc + 1 = pc2) (k : XW G B nL pc2 lv (.int (x * y) :: st) Ω cu su) : XW G B nL pc lv (.int y :: .int x :: st) Ω cu su := by
  obtain ⟨p, e, R, s, m, args, below, meth, c, Q⟩ := B
  obtain ⟨hx, hb, hml, ho, hts, hU, hok, hlk, hR, hret, htab, hQ⟩ := C
  subst hp
  intro H locs ls hP hS hl
  exact lv_imul hx hb hd  (k H locs ls hP hS hl)
theorem z_ior {G : XG} {B : XB} {cc : ByteArray} {own : String} {rm : Room} {nL : Nat} (C : XZ G B cc own rm nL) {pc : Nat} {lv : List (Nat × Value)} {st : List Value} {Ω : XO} {cu su : Nat} {x y : Int32} (hd : decode cc pc = .ok (.ior, 1))  {pc2 : Nat} (hp : pc + 1 = pc2) (k : XW G B nL pc2 lv (.int (x ||| y) :: st) Ω cu su) : XW G B nL pc lv (.int y :: .int x :: st) Ω cu su := by
  obtain ⟨p, e, R, s, m, args, below, meth, c, Q⟩ := B
  obtain ⟨hx, hb, hml, ho, hts, hU, hok, hlk, hR, hret, htab, hQ⟩ := C
  subst hp
  intro H locs ls hP hS hl
  exact lv_ior hx hb hd  (k H locs ls hP hS hl)
theorem z_ixor {G : XG} {B : XB} {cc : ByteArray} {own : String} {rm : Room} {nL : Nat} (C : XZ G B cc own rm nL) {pc : Nat} {lv : List (Nat × Value)} {st : List Value} {Ω : XO} {cu su : Nat} {x y : Int32} (hd : decode cc pc = .ok (.ixor, 1))  {pc2 : Nat} (hp : pc + 1 = pc2) (k : XW G B nL pc2 lv (.int (x ^^^ y) :: st) Ω cu su) : XW G B nL pc lv (.int y :: .int x :: st) Ω cu su := by
  obtain ⟨p, e, R, s, m, args, below, meth, c, Q⟩ := B
  obtain ⟨hx, hb, hml, ho, hts, hU, hok, hlk, hR, hret, htab, hQ⟩ := C
  subst hp
  intro H locs ls hP hS hl
  exact lv_ixor hx hb hd  (k H locs ls hP hS hl)
theorem z_ishl {G : XG} {B : XB} {cc : ByteArray} {own : String} {rm : Room} {nL : Nat} (C : XZ G B cc own rm nL) {pc : Nat} {lv : List (Nat × Value)} {st : List Value} {Ω : XO} {cu su : Nat} {x y : Int32} (hd : decode cc pc = .ok (.ishl, 1))  {pc2 : Nat} (hp : pc + 1 = pc2) (k : XW G B nL pc2 lv (.int (x <<< (y &&& 31)) :: st) Ω cu su) : XW G B nL pc lv (.int y :: .int x :: st) Ω cu su := by
  obtain ⟨p, e, R, s, m, args, below, meth, c, Q⟩ := B
  obtain ⟨hx, hb, hml, ho, hts, hU, hok, hlk, hR, hret, htab, hQ⟩ := C
  subst hp
  intro H locs ls hP hS hl
  exact lv_ishl hx hb hd  (k H locs ls hP hS hl)
theorem z_ishr {G : XG} {B : XB} {cc : ByteArray} {own : String} {rm : Room} {nL : Nat} (C : XZ G B cc own rm nL) {pc : Nat} {lv : List (Nat × Value)} {st : List Value} {Ω : XO} {cu su : Nat} {x y : Int32} (hd : decode cc pc = .ok (.ishr, 1))  {pc2 : Nat} (hp : pc + 1 = pc2) (k : XW G B nL pc2 lv (.int (x >>> (y &&& 31)) :: st) Ω cu su) : XW G B nL pc lv (.int y :: .int x :: st) Ω cu su := by
  obtain ⟨p, e, R, s, m, args, below, meth, c, Q⟩ := B
  obtain ⟨hx, hb, hml, ho, hts, hU, hok, hlk, hR, hret, htab, hQ⟩ := C
  subst hp
  intro H locs ls hP hS hl
  exact lv_ishr hx hb hd  (k H locs ls hP hS hl)
theorem z_idiv {G : XG} {B : XB} {cc : ByteArray} {own : String} {rm : Room} {nL : Nat} (C : XZ G B cc own rm nL) {pc : Nat} {lv : List (Nat × Value)} {st : List Value} {Ω : XO} {cu su : Nat} {x y : Int32} (hd : decode cc pc = .ok (.idiv, 1)) (hne : ¬ y = 0) {pc2 : Nat} (hp : pc + 1 = pc2) (k : XW G B nL pc2 lv (.int (x / y) :: st) Ω cu su) : XW G B nL pc lv (.int y :: .int x :: st) Ω cu su := by
  obtain ⟨p, e, R, s, m, args, below, meth, c, Q⟩ := B
  obtain ⟨hx, hb, hml, ho, hts, hU, hok, hlk, hR, hret, htab, hQ⟩ := C
  subst hp
  intro H locs ls hP hS hl
  exact lv_idiv hx hb hd hne (k H locs ls hP hS hl)
theorem z_irem {G : XG} {B : XB} {cc : ByteArray} {own : String} {rm : Room} {nL : Nat} (C : XZ G B cc own rm nL) {pc : Nat} {lv : List (Nat × Value)} {st : List Value} {Ω : XO} {cu su : Nat} {x y : Int32} (hd : decode cc pc = .ok (.irem, 1)) (hne : ¬ y = 0) {pc2 : Nat} (hp : pc + 1 = pc2) (k : XW G B nL pc2 lv (.int (x - x / y * y) :: st) Ω cu su) : XW G B nL pc lv (.int y :: .int x :: st) Ω cu su := by
  obtain ⟨p, e, R, s, m, args, below, meth, c, Q⟩ := B
  obtain ⟨hx, hb, hml, ho, hts, hU, hok, hlk, hR, hret, htab, hQ⟩ := C
  subst hp
  intro H locs ls hP hS hl
  exact lv_irem hx hb hd hne (k H locs ls hP hS hl)
theorem z_ineg {G : XG} {B : XB} {cc : ByteArray} {own : String} {rm : Room} {nL : Nat} (C : XZ G B cc own rm nL) {pc : Nat} {lv : List (Nat × Value)} {st : List Value} {Ω : XO} {cu su : Nat} {x : Int32} (hd : decode cc pc = .ok (.ineg, 1))  {pc2 : Nat} (hp : pc + 1 = pc2) (k : XW G B nL pc2 lv (.int (-x) :: st) Ω cu su) : XW G B nL pc lv (.int x :: st) Ω cu su := by
  obtain ⟨p, e, R, s, m, args, below, meth, c, Q⟩ := B
  obtain ⟨hx, hb, hml, ho, hts, hU, hok, hlk, hR, hret, htab, hQ⟩ := C
  subst hp
  intro H locs ls hP hS hl
  exact lv_ineg hx hb hd  (k H locs ls hP hS hl)
theorem z_pop {G : XG} {B : XB} {cc : ByteArray} {own : String} {rm : Room} {nL : Nat} (C : XZ G B cc own rm nL) {pc : Nat} {lv : List (Nat × Value)} {st : List Value} {Ω : XO} {cu su : Nat} {v : Value} (hd : decode cc pc = .ok (.pop, 1)) (hv : v.category = 1) {pc2 : Nat} (hp : pc + 1 = pc2) (k : XW G B nL pc2 lv st Ω cu su) : XW G B nL pc lv (v :: st) Ω cu su := by
  obtain ⟨p, e, R, s, m, args, below, meth, c, Q⟩ := B
  obtain ⟨hx, hb, hml, ho, hts, hU, hok, hlk, hR, hret, htab, hQ⟩ := C
  subst hp
  intro H locs ls hP hS hl
  exact lv_pop hx hb hd hv (k H locs ls hP hS hl)
theorem z_dup2 {G : XG} {B : XB} {cc : ByteArray} {own : String} {rm : Room} {nL : Nat} (C : XZ G B cc own rm nL) {pc : Nat} {lv : List (Nat × Value)} {st : List Value} {Ω : XO} {cu su : Nat} {v v2 : Value} (hd : decode cc pc = .ok (.dup2, 1)) (hv : v.category = 1) (hv2 : v2.category = 1) {pc2 : Nat} (hp : pc + 1 = pc2) (k : XW G B nL pc2 lv (v :: v2 :: v :: v2 :: st) Ω cu su) : XW G B nL pc lv (v :: v2 :: st) Ω cu su := by
  obtain ⟨p, e, R, s, m, args, below, meth, c, Q⟩ := B
  obtain ⟨hx, hb, hml, ho, hts, hU, hok, hlk, hR, hret, htab, hQ⟩ := C
  subst hp
  intro H locs ls hP hS hl
  exact lv_dup2_11 hx hb hd hv hv2 (k H locs ls hP hS hl)
theorem z_if_lt {G : XG} {B : XB} {cc : ByteArray} {own : String} {rm : Room} {nL : Nat} (C : XZ G B cc own rm nL) {pc : Nat} {lv : List (Nat × Value)} {st : List Value} {Ω : XO} {cu su : Nat} {x : Int32} {off : Int} {tgt : Nat} (hd : decode cc pc = .ok (.ifCond .lt off, 3)) (ht : (pc : Int) + off = (tgt : Int)) {pc2 : Nat} (hp : pc + 3 = pc2) (kt : x < 0 → XW G B nL tgt lv st Ω cu su) (kf : ¬ x < 0 → XW G B nL pc2 lv st Ω cu su) : XW G B nL pc lv (.int x :: st) Ω cu su := by
  obtain ⟨p, e, R, s, m, args, below, meth, c, Q⟩ := B
  obtain ⟨hx, hb, hml, ho, hts, hU, hok, hlk, hR, hret, htab, hQ⟩ := C
  subst hp
  intro H locs ls hP hS hl
  exact lv_if_lt hx hb hd ht (fun h => kt h H locs ls hP hS hl) (fun h => kf h H locs ls hP hS hl)
theorem z_if_ge {G : XG} {B : XB} {cc : ByteArray} {own : String} {rm : Room} {nL : Nat} (C : XZ G B cc own rm nL) {pc : Nat} {lv : List (Nat × Value)} {st : List Value} {Ω : XO} {cu su : Nat} {x : Int32} {off : Int} {tgt : Nat} (hd : decode cc pc = .ok (.ifCond .ge off, 3)) (ht : (pc : Int) + off = (tgt : Int)) {pc2 : Nat} (hp : pc + 3 = pc2) (kt : 0 ≤ x → XW G B nL tgt lv st Ω cu su) (kf : ¬ 0 ≤ x → XW G B nL pc2 lv st Ω cu su) : XW G B nL pc lv (.int x :: st) Ω cu su := by
  obtain ⟨p, e, R, s, m, args, below, meth, c, Q⟩ := B
  obtain ⟨hx, hb, hml, ho, hts, hU, hok, hlk, hR, hret, htab, hQ⟩ := C
  subst hp
  intro H locs ls hP hS hl
  exact lv_if_ge hx hb hd ht (fun h => kt h H locs ls hP hS hl) (fun h => kf h H locs ls hP hS hl)
theorem z_if_gt {G : XG} {B : XB} {cc : ByteArray} {own : String} {rm : Room} {nL : Nat} (C : XZ G B cc own rm nL) {pc : Nat} {lv : List (Nat × Value)} {st : List Value} {Ω : XO} {cu su : Nat} {x : Int32} {off : Int} {tgt : Nat} (hd : decode cc pc = .ok (.ifCond .gt off, 3)) (ht : (pc : Int) + off = (tgt : Int)) {pc2 : Nat} (hp : pc + 3 = pc2) (kt : 0 < x → XW G B nL tgt lv st Ω cu su) (kf : ¬ 0 < x → XW G B nL pc2 lv st Ω cu su) : XW G B nL pc lv (.int x :: st) Ω cu su := by
  obtain ⟨p, e, R, s, m, args, below, meth, c, Q⟩ := B
  obtain ⟨hx, hb, hml, ho, hts, hU, hok, hlk, hR, hret, htab, hQ⟩ := C
  subst hp
  intro H locs ls hP hS hl
  exact lv_if_gt hx hb hd ht (fun h => kt h H locs ls hP hS hl) (fun h => kf h H locs ls hP hS hl)
theorem z_if_le {G : XG} {B : XB} {cc : ByteArray} {own : String} {rm : Room} {nL : Nat} (C : XZ G B cc own rm nL) {pc : Nat} {lv : List (Nat × Value)} {st : List Value} {Ω : XO} {cu su : Nat} {x : Int32} {off : Int} {tgt : Nat} (hd : decode cc pc = .ok (.ifCond .le off, 3)) (ht : (pc : Int) + off = (tgt : Int)) {pc2 : Nat} (hp : pc + 3 = pc2) (kt : x ≤ 0 → XW G B nL tgt lv st Ω cu su) (kf : ¬ x ≤ 0 → XW G B nL pc2 lv st Ω cu su) : XW G B nL pc lv (.int x :: st) Ω cu su := by
  obtain ⟨p, e, R, s, m, args, below, meth, c, Q⟩ := B
  obtain ⟨hx, hb, hml, ho, hts, hU, hok, hlk, hR, hret, htab, hQ⟩ := C
  subst hp
  intro H locs ls hP hS hl
  exact lv_if_le hx hb hd ht (fun h => kt h H locs ls hP hS hl) (fun h => kf h H locs ls hP hS hl)
theorem z_icmp_ne {G : XG} {B : XB} {cc : ByteArray} {own : String} {rm : Room} {nL : Nat} (C : XZ G B cc own rm nL) {pc : Nat} {lv : List (Nat × Value)} {st : List Value} {Ω : XO} {cu su : Nat} {x y : Int32} {off : Int} {tgt : Nat} (hd : decode cc pc = .ok (.if_icmp .ne off, 3)) (ht : (pc : Int) + off = (tgt : Int)) {pc2 : Nat} (hp : pc + 3 = pc2) (kt : ¬ x = y → XW G B nL tgt lv st Ω cu su) (kf : x = y → XW G B nL pc2 lv st Ω cu su) : XW G B nL pc lv (.int y :: .int x :: st) Ω cu su := by
  obtain ⟨p, e, R, s, m, args, below, meth, c, Q⟩ := B
  obtain ⟨hx, hb, hml, ho, hts, hU, hok, hlk, hR, hret, htab, hQ⟩ := C
  subst hp
  intro H locs ls hP hS hl
  exact lv_icmp_ne hx hb hd ht (fun h => kt h H locs ls hP hS hl) (fun h => kf h H locs ls hP hS hl)
theorem z_icmp_lt {G : XG} {B : XB} {cc : ByteArray} {own : String} {rm : Room} {nL : Nat} (C : XZ G B cc own rm nL) {pc : Nat} {lv : List (Nat × Value)} {st : List Value} {Ω : XO} {cu su : Nat} {x y : Int32} {off : Int} {tgt : Nat} (hd : decode cc pc = .ok (.if_icmp .lt off, 3)) (ht : (pc : Int) + off = (tgt : Int)) {pc2 : Nat} (hp : pc + 3 = pc2) (kt : x < y → XW G B nL tgt lv st Ω cu su) (kf : ¬ x < y → XW G B nL pc2 lv st Ω cu su) : XW G B nL pc lv (.int y :: .int x :: st) Ω cu su := by
  obtain ⟨p, e, R, s, m, args, below, meth, c, Q⟩ := B
  obtain ⟨hx, hb, hml, ho, hts, hU, hok, hlk, hR, hret, htab, hQ⟩ := C
  subst hp
  intro H locs ls hP hS hl
  exact lv_icmp_lt hx hb hd ht (fun h => kt h H locs ls hP hS hl) (fun h => kf h H locs ls hP hS hl)
theorem z_icmp_ge {G : XG} {B : XB} {cc : ByteArray} {own : String} {rm : Room} {nL : Nat} (C : XZ G B cc own rm nL) {pc : Nat} {lv : List (Nat × Value)} {st : List Value} {Ω : XO} {cu su : Nat} {x y : Int32} {off : Int} {tgt : Nat} (hd : decode cc pc = .ok (.if_icmp .ge off, 3)) (ht : (pc : Int) + off = (tgt : Int)) {pc2 : Nat} (hp : pc + 3 = pc2) (kt : y ≤ x → XW G B nL tgt lv st Ω cu su) (kf : ¬ y ≤ x → XW G B nL pc2 lv st Ω cu su) : XW G B nL pc lv (.int y :: .int x :: st) Ω cu su := by
  obtain ⟨p, e, R, s, m, args, below, meth, c, Q⟩ := B
  obtain ⟨hx, hb, hml, ho, hts, hU, hok, hlk, hR, hret, htab, hQ⟩ := C
  subst hp
  intro H locs ls hP hS hl
  exact lv_icmp_ge hx hb hd ht (fun h => kt h H locs ls hP hS hl) (fun h => kf h H locs ls hP hS hl)
theorem z_icmp_le {G : XG} {B : XB} {cc : ByteArray} {own : String} {rm : Room} {nL : Nat} (C : XZ G B cc own rm nL) {pc : Nat} {lv : List (Nat × Value)} {st : List Value} {Ω : XO} {cu su : Nat} {x y : Int32} {off : Int} {tgt : Nat} (hd : decode cc pc = .ok (.if_icmp .le off, 3)) (ht : (pc : Int) + off = (tgt : Int)) {pc2 : Nat} (hp : pc + 3 = pc2) (kt : x ≤ y → XW G B nL tgt lv st Ω cu su) (kf : ¬ x ≤ y → XW G B nL pc2 lv st Ω cu su) : XW G B nL pc lv (.int y :: .int x :: st) Ω cu su := by
  obtain ⟨p, e, R, s, m, args, below, meth, c, Q⟩ := B
  obtain ⟨hx, hb, hml, ho, hts, hU, hok, hlk, hR, hret, htab, hQ⟩ := C
  subst hp
  intro H locs ls hP hS hl
  exact lv_icmp_le hx hb hd ht (fun h => kt h H locs ls hP hS hl) (fun h => kf h H locs ls hP hS hl)
theorem z_ldc {G : XG} {B : XB} {cc : ByteArray} {own : String} {rm : Room} {nL : Nat} (C : XZ G B cc own rm nL) {pc : Nat} {lv : List (Nat × Value)} {st : List Value} {Ω : XO} {cu su : Nat} {idx : Nat} {v : Int32} (hw : Cond.constant own idx v ∈ lw_g) (hd : decode cc pc = .ok (.ldc idx, 2)) {pc2 : Nat} (hp : pc + 2 = pc2) (k : XW G B nL pc2 lv (.int v :: st) Ω cu su) : XW G B nL pc lv st Ω cu su := by
  obtain ⟨p, e, R, s, m, args, below, meth, c, Q⟩ := B
  obtain ⟨hx, hb, hml, ho, hts, hU, hok, hlk, hR, hret, htab, hQ⟩ := C
  subst hp
  intro H locs ls hP hS hl
  exact lv_ldc hx hb ho (hts _ hw) hd (k H locs ls hP hS hl)
theorem z_iald {G : XG} {B : XB} {cc : ByteArray} {own : String} {rm : Room} {nL : Nat} (C : XZ G B cc own rm nL) {pc : Nat} {lv : List (Nat × Value)} {st : List Value} {Ω : XO} {cu su : Nat} {kd i : Nat} {j : Int32} (hdm : dm G kd i) (hd : decode cc pc = .ok (.iaload, 1)) (hs : sA 0 kd = true) (hin : vp_in j (alen kd)) {pc2 : Nat} (hp : pc + 1 = pc2) (k : XW G B nL pc2 lv (.int (xI Ω kd i j.toNatClampNeg) :: st) Ω cu su) : XW G B nL pc lv (.int j :: .ref (ad G kd i) :: st) Ω cu su := by
  obtain ⟨p, e, R, s, m, args, below, meth, c, Q⟩ := B
  obtain ⟨hx, hb, hml, ho, hts, hU, hok, hlk, hR, hret, htab, hQ⟩ := C
  subst hp
  intro H locs ls hP hS hl
  obtain ⟨hk, ht⟩ := sak hs
  obtain ⟨q, hq⟩ := pl_get (Ω := Ω) hdm
  rw [EE_ai hk ht] at hq
  exact va_iald (D := gD G) hx hb hU.2.1 hP q 0 hq rfl hin hd (k H locs ls hP hS hl)

theorem z_iast {G : XG} {B : XB} {cc : ByteArray} {own : String} {rm : Room} {nL : Nat} (C : XZ G B cc own rm nL) {pc : Nat} {lv : List (Nat × Value)} {st : List Value} {Ω : XO} {cu su : Nat} {v : Int32} {kd i : Nat} {j : Int32} (hdm : dm G kd i) (hd : decode cc pc = .ok (.iastore, 1)) (hs : sA 0 kd = true) (hin : vp_in j (alen kd)) {pc2 : Nat} (hp : pc + 1 = pc2) (k : XW G B nL pc2 lv st (uI Ω kd i j.toNatClampNeg v) cu su) : XW G B nL pc lv (.int v :: .int j :: .ref (ad G kd i) :: st) Ω cu su := by
  obtain ⟨p, e, R, s, m, args, below, meth, c, Q⟩ := B
  obtain ⟨hx, hb, hml, ho, hts, hU, hok, hlk, hR, hret, htab, hQ⟩ := C
  subst hp
  intro H locs ls hP hS hl
  obtain ⟨hk, ht⟩ := sak hs
  obtain ⟨q, hq⟩ := pl_get (Ω := Ω) hdm
  have hq0 := hq
  rw [EE_ai hk ht] at hq
  refine va_iast (D := gD G) (A := xA G) hx hb hU.2.1 hP (hok.2.2.1 _) hS q 0 hq rfl hin hd (fun H1 locs1 hP1 _ hS1 => ?_)
  rw [pl_set hok hdm hq0 _ (EE_sI (j := j.toNatClampNeg) (v := v) hk ht) (EE_sIn hk)] at hP1
  exact k H1 locs1 ls hP1 hS1 hl
theorem z_alen {G : XG} {B : XB} {cc : ByteArray} {own : String} {rm : Room} {nL : Nat} (C : XZ G B cc own rm nL) {pc : Nat} {lv : List (Nat × Value)} {st : List Value} {Ω : XO} {cu su : Nat} {kd i : Nat} {ty : FieldType} (hdm : dm G kd i) (hd : decode cc pc = .ok (.arraylength, 1)) (hk : Nat.ble 2000 kd = true) (hty : (tysOf G)[aty kd]? = some (gC G (aty kd), ty)) {pc2 : Nat} (hp : pc + 1 = pc2) (k : XW G B nL pc2 lv (.int (nI (alen kd)) :: st) Ω cu su) : XW G B nL pc lv (.ref (ad G kd i) :: st) Ω cu su := by
  obtain ⟨p, e, R, s, m, args, below, meth, c, Q⟩ := B
  obtain ⟨hx, hb, hml, ho, hts, hU, hok, hlk, hR, hret, htab, hQ⟩ := C
  subst hp
  intro H locs ls hP hS hl
  obtain ⟨q, hq⟩ := pl_get (Ω := Ω) hdm
  rw [EE_a (Nat.le_of_ble_eq_true hk)] at hq
  exact va_alen (D := gD G) hx hb hU.2.1 hP q (aty kd) hq hty rfl hd (k H locs ls hP hS hl)
