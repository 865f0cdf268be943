def cb_i (L : Nat) (st : Nat → Nat) : Int32 := if L = 0 then -1 else nI (st (L - 1))
/-- what holds between two calls: the answers of the latest run -/
def ci_P (ph : Int32) (cr : Int64) (ec en pr : Int32) (pv : Nat → Int64) (res yer ypl : Int32) (gv : Int64) (ou : Nat → Int64) : Prop :=
  cr_O 40 6 ph cr ec en res yer ypl gv ∧ ∃ w, w ≤ 90000 ∧ pr = nI w ∧ ∀ j, j < 24 → j < w → cv_R 40 6 (pv j) (ou j)
def ci_R (dep fu L : Nat) (st : Nat → Nat) (N : Nat) (oc pc E lv : Nat → Nat) (kd : Nat → Nat → Nat) (SC : Nat → Int32 → Prop) (op a b fi nx xp xl xo pa yp : Nat → Int32) (ph : Int32) (cr : Int64) (ec en pr : Int32) (pv : Nat → Int64) (res yer ypl : Int32) (gv : Int64) (ou : Nat → Int64) : Prop :=
  (1 ≤ dep ∧ dep ≤ 6 ∧ fu ≤ 200) ∧ (cb_G L st N oc pc E lv kd SC op a b fi nx xp xl xo pa yp) ∧ ci_P ph cr ec en pr pv res yer ypl gv ou
def i_Rel (_ : Nat) (u : SX) (v : SY) : Prop :=
  ∃ (dep fu L N : Nat) (st oc pc E lv : Nat → Nat) (kd : Nat → Nat → Nat) (SC : Nat → Int32 → Prop) (xF xV xC xs ph : Int32) (cr : Int64) (ec en ft bt pr : Int32) (op a b xp fi xl nx xo fn fe vn vo : Nat → Int32) (vv : Nat → Int64) (xst xf xr xh xc fN fX fS fT : Nat → Int32) (fL pv : Nat → Int64) (ys yft res yer ypl rn hs : Int32) (gv gt : Int64) (pa yp wn wu gn ge : Nat → Int32) (wv : Nat → Int64) (yl ya ye : Nat → Int32) (yk : Nat → Int64) (yt yc yst yf yr : Nat → Int32) (ou : Nat → Int64),
    u = ((nI dep), (nI fu), (nI N), (nI L), xF, xV, xC, xs, ph, cr, ec, en, ft, bt, pr, op, a, b, xp, fi, xl, nx, xo, fn, fe, vn, vo, vv, xst, xf, xr, xh, xc, fN, fX, fS, fT, fL, pv) ∧ v = ((nI dep), (nI fu), (nI N), (cb_i L st), (nI L), xV, xF, xC, ys, yft, bt, res, yer, ypl, pr, rn, hs, gv, gt, op, a, b, pa, fi, nx, yp, wn, wu, gn, ge, wv, yl, ya, ye, yk, yt, yc, yst, yf, yr, ou) ∧ (ci_R dep fu L st N oc pc E lv kd SC op a b fi nx xp xl xo pa yp ph cr ec en pr pv res yer ypl gv ou)
section
variable {dep fu L N : Nat} {st oc pc E lv : Nat → Nat} {kd : Nat → Nat → Nat} {SC : Nat → Int32 → Prop} {xF xV xC xs ph : Int32} {cr : Int64} {ec en ft bt pr : Int32} {op a b xp fi xl nx xo fn fe vn vo : Nat → Int32} {vv : Nat → Int64} {xst xf xr xh xc fN fX fS fT : Nat → Int32} {fL pv : Nat → Int64} {ys yft res yer ypl rn hs : Int32} {gv gt : Int64} {pa yp wn wu gn ge : Nat → Int32} {wv : Nat → Int64} {yl ya ye : Nat → Int32} {yk : Nat → Int64} {yt yc yst yf yr : Nat → Int32} {ou : Nat → Int64}
theorem ci_mk {k : Nat} (h : (ci_R dep fu L st N oc pc E lv kd SC op a b fi nx xp xl xo pa yp ph cr ec en pr pv res yer ypl gv ou)) : i_Rel k ((nI dep), (nI fu), (nI N), (nI L), xF, xV, xC, xs, ph, cr, ec, en, ft, bt, pr, op, a, b, xp, fi, xl, nx, xo, fn, fe, vn, vo, vv, xst, xf, xr, xh, xc, fN, fX, fS, fT, fL, pv) ((nI dep), (nI fu), (nI N), (cb_i L st), (nI L), xV, xF, xC, ys, yft, bt, res, yer, ypl, pr, rn, hs, gv, gt, op, a, b, pa, fi, nx, yp, wn, wu, gn, ge, wv, yl, ya, ye, yk, yt, yc, yst, yf, yr, ou) := ⟨dep, fu, L, N, st, oc, pc, E, lv, kd, SC, xF, xV, xC, xs, ph, cr, ec, en, ft, bt, pr, op, a, b, xp, fi, xl, nx, xo, fn, fe, vn, vo, vv, xst, xf, xr, xh, xc, fN, fX, fS, fT, fL, pv, ys, yft, res, yer, ypl, rn, hs, gv, gt, pa, yp, wn, wu, gn, ge, wv, yl, ya, ye, yk, yt, yc, yst, yf, yr, ou, rfl, rfl, h⟩
theorem i_up {k : Nat} {u : SX} {v : SY} (h : i_Rel k u v) : i_Rel (k + 4) u v := h
theorem cg_0 : cb_G 0 st 0 oc pc E lv kd SC op a b fi nx xp xl xo pa yp :=
  ⟨⟨by omega, by omega, fun h => by omega, fun h => by omega⟩, fun i hi => by omega, fun n hn => by omega, fun n hn => by omega, fun i hi => by omega⟩
/-- a bound of the constructors -/
theorem ci_w (x : Int32) (m : Nat) (hm : m < 1000) (hm1 : 1 ≤ m) : (1 ≤ x ∧ x ≤ nI m ∧ ∃ d, 1 ≤ d ∧ d ≤ m ∧ x = nI d) ∨ (1 ≤ x ∧ ¬ x ≤ nI m) ∨ (¬ 1 ≤ x) := by
  by_cases h1 : 1 ≤ x
  · by_cases h2 : x ≤ nI m
    · have h0 : ¬ x < 0 := fun h => by
        have := Int32.lt_of_le_of_lt h1 h
        exact absurd this (by decide)
      obtain ⟨j, j1, j2⟩ := nI_of h0
      rw [j2, nI_leI j1 (by omega)] at h2
      have h3 : nI 1 ≤ nI j := by rw [← j2]; exact h1
      rw [nI_leI (by omega) j1] at h3
      exact Or.inl ⟨h1, by rw [j2, nI_leI j1 (by omega)]; exact h2, j, h3, h2, j2⟩
    · exact Or.inr (Or.inl ⟨h1, h2⟩)
  · exact Or.inr (Or.inr h1)
theorem ci_0 {k : Nat} {d f : Nat} (hd : 1 ≤ d) (hd6 : d ≤ 6) (hf : f ≤ 200) : i_Rel k (nI d, nI f, 0, 0, 0, 0, 0, 0, 3, 0, 0, (-1), 0, 0, 0, (fun _ => 0), (fun _ => 0), (fun _ => 0), (fun _ => 0), (fun _ => 0), (fun _ => 0), (fun _ => 0), (fun _ => 0), (fun _ => 0), (fun _ => 0), (fun _ => 0), (fun _ => 0), (fun _ => 0), (fun _ => 0), (fun _ => 0), (fun _ => 0), (fun _ => 0), (fun _ => 0), (fun _ => 0), (fun _ => 0), (fun _ => 0), (fun _ => 0), (fun _ => 0), (fun _ => 0)) (nI d, nI f, 0, (-1), 0, 0, 0, 0, 0, 0, 0, 3, 0, (-1), 0, 0, 0, 0, 0, (fun _ => 0), (fun _ => 0), (fun _ => 0), (fun _ => 0), (fun _ => 0), (fun _ => 0), (fun _ => 0), (fun _ => 0), (fun _ => 0), (fun _ => 0), (fun _ => 0), (fun _ => 0), (fun _ => 0), (fun _ => 0), (fun _ => 0), (fun _ => 0), (fun _ => 0), (fun _ => 0), (fun _ => 0), (fun _ => 0), (fun _ => 0), (fun _ => 0)) :=
  ci_mk (dep := d) (fu := f) (L := 0) (N := 0) (st := fun _ => 0) (oc := fun _ => 0) (pc := fun _ => 0) (E := fun _ => 0) (lv := fun _ => 0) (kd := fun _ _ => 0) (SC := fun _ _ => False) ⟨⟨hd, hd6, hf⟩, cg_0, ⟨3, by omega, rfl, rfl, fun h => by omega, fun h => by omega, fun _ => ⟨rfl, rfl⟩⟩, 0, by omega, rfl, fun j h1 h2 => by omega⟩
theorem i_vc0 (k0 : Int32) (k1 : Int32) : wpX_init (fun u => wpY_init (fun v => i_Rel 2 u v) k0 k1) k0 k1 := by
  rcases ci_w k0 6 (by omega) (by omega) with ⟨h1, h2, d, d1, d2, d3⟩ | ⟨h1, h2⟩ | h1
  · rcases ci_w k1 200 (by omega) (by omega) with ⟨g1, g2, f, f1, f2, f3⟩ | ⟨g1, g2⟩ | g1
    · exact br_t h1 (br_t h2 (br_t g1 (br_t g2 (br_t h1 (br_t h2 (br_t g1 (br_t g2 (by subst d3 f3; exact ci_0 (k := 2) d1 d2 f2))))))))
    · exact br_t h1 (br_t h2 (br_t g1 (br_f g2 (br_t h1 (br_t h2 (br_t g1 (br_f g2 (by subst d3; exact ci_0 (k := 2) (f := 200) d1 d2 (by omega)))))))))
    · exact br_t h1 (br_t h2 (br_f g1 (br_t h1 (br_t h2 (br_f g1 (by subst d3; exact ci_0 (k := 2) (f := 1) d1 d2 (by omega)))))))
  · rcases ci_w k1 200 (by omega) (by omega) with ⟨g1, g2, f, f1, f2, f3⟩ | ⟨g1, g2⟩ | g1
    · exact br_t h1 (br_f h2 (br_t g1 (br_t g2 (br_t h1 (br_f h2 (br_t g1 (br_t g2 (by subst f3; exact ci_0 (k := 2) (d := 6) (by omega) (by omega) f2))))))))
    · exact br_t h1 (br_f h2 (br_t g1 (br_f g2 (br_t h1 (br_f h2 (br_t g1 (br_f g2 (ci_0 (k := 2) (d := 6) (f := 200) (by omega) (by omega) (by omega)))))))))
    · exact br_t h1 (br_f h2 (br_f g1 (br_t h1 (br_f h2 (br_f g1 (ci_0 (k := 2) (d := 6) (f := 1) (by omega) (by omega) (by omega)))))))
  · rcases ci_w k1 200 (by omega) (by omega) with ⟨g1, g2, f, f1, f2, f3⟩ | ⟨g1, g2⟩ | g1
    · exact br_f h1 (br_t g1 (br_t g2 (br_f h1 (br_t g1 (br_t g2 (by subst f3; exact ci_0 (k := 2) (d := 1) (by omega) (by omega) f2))))))
    · exact br_f h1 (br_t g1 (br_f g2 (br_f h1 (br_t g1 (br_f g2 (ci_0 (k := 2) (d := 1) (f := 200) (by omega) (by omega) (by omega)))))))
    · exact br_f h1 (br_f g1 (br_f h1 (br_f g1 (ci_0 (k := 2) (d := 1) (f := 1) (by omega) (by omega) (by omega)))))
theorem i_vc_drop {k : Nat} {u : SX} {v : SY} (I : i_Rel k u v) (hk : k + 4 ≤ 2050) : wpX_drop (fun u' => wpY_drop (fun v' => i_Rel (k + 4) u' v') v) u := by
  obtain ⟨dep, fu, L, N, st, oc, pc, E, lv, kd, SC, xF, xV, xC, xs, ph, cr, ec, en, ft, bt, pr, op, a, b, xp, fi, xl, nx, xo, fn, fe, vn, vo, vv, xst, xf, xr, xh, xc, fN, fX, fS, fT, fL, pv, ys, yft, res, yer, ypl, rn, hs, gv, gt, pa, yp, wn, wu, gn, ge, wv, yl, ya, ye, yk, yt, yc, yst, yf, yr, ou, rfl, rfl, h1, h2, h3⟩ := I
  exact ci_mk (k := k + 4) (L := 0) (N := 0) (st := st) ⟨h1, cg_0 (st := st) (oc := oc) (pc := pc) (E := E) (lv := lv) (kd := kd) (SC := SC), h3⟩
/-- the room for a node -/
theorem bd_room (hG : (cb_G L st N oc pc E lv kd SC op a b fi nx xp xl xo pa yp)) : ∃ r : Int32, (∀ q : Int32 → Prop, q r → wpX_hasRoom q ((nI dep), (nI fu), (nI N), (nI L), xF, xV, xC, xs, ph, cr, ec, en, ft, bt, pr, op, a, b, xp, fi, xl, nx, xo, fn, fe, vn, vo, vv, xst, xf, xr, xh, xc, fN, fX, fS, fT, fL, pv)) ∧ (∀ q : Int32 → Prop, q r → wpY_room q ((nI dep), (nI fu), (nI N), (cb_i L st), (nI L), xV, xF, xC, ys, yft, bt, res, yer, ypl, pr, rn, hs, gv, gt, op, a, b, pa, fi, nx, yp, wn, wu, gn, ge, wv, yl, ya, ye, yk, yt, yc, yst, yf, yr, ou)) ∧ (r = 0 ∨ (r = 1 ∧ ((N = 0 ∧ L = 0) ∨ (∃ l, l + 1 = L ∧ N < 96 ∧ pc (st l) < ct_mx (oc (st l)))))) := by
  obtain ⟨⟨g1, g2, g3, g4⟩, g5, g6, g7, g8⟩ := hG
  by_cases h1 : 0 < N ∧ L = 0
  · refine ⟨0, fun q hq => x_room0 (Or.inl h1) g1 (by omega) hq, fun q hq => y_room0 (Or.inl ⟨h1.1, if_pos h1.2⟩) g1 hq, Or.inl rfl⟩
  · by_cases h2 : 96 ≤ N
    · refine ⟨0, fun q hq => x_room0 (Or.inr h2) g1 (by omega) hq, fun q hq => y_room0 (Or.inr ⟨h2, ?_⟩) g1 hq, Or.inl rfl⟩
      unfold cb_i
      rw [if_neg (by omega)]
      exact nI_pos (by have := (g5 (L - 1) (by omega)).1; omega)
    · rcases Nat.eq_zero_or_pos L with h0 | h0
      · obtain rfl : N = 0 := by omega
        subst h0
        exact ⟨1, fun q hq => x_room1 hq, fun q hq => y_room1 hq, Or.inr ⟨rfl, Or.inl ⟨rfl, rfl⟩⟩⟩
      · obtain ⟨l, rfl⟩ : ∃ l, L = l + 1 := ⟨L - 1, by omega⟩
        obtain ⟨e1, e2, e3, e4, e5, e6, e7, e8⟩ := g5 l (by omega)
        have hinj : ∀ i, i + 1 < l + 1 → st i ≠ st l := fun i hi e => by have := e6 i (by omega); omega
        have hxp := (g7 (st l) e1).2.1 hinj
        have hyp := (g7 (st l) e1).1
        have hop := (g6 (st l) e1).1.2.1
        have hpn := (g6 (st l) e1).1.2.2.2
        have hci : cb_i (l + 1) st = nI (st l) := by unfold cb_i; rw [if_neg (by omega), Nat.add_sub_cancel]
        rw [hci]
        by_cases h3 : pc (st l) < ct_mx (oc (st l))
        · exact ⟨1, fun q hq => x_room2 (by omega) (by omega) (by omega) e2 (by omega) hxp (by omega) hop e4 (fun h => by omega) (fun _ => hq), fun q hq => y_room2 (by omega) (by omega) (by omega) hyp (by omega) hop e4 (fun h => by omega) (fun _ => hq), Or.inr ⟨rfl, Or.inr ⟨l, rfl, by omega, h3⟩⟩⟩
        · exact ⟨0, fun q hq => x_room2 (by omega) (by omega) (by omega) e2 (by omega) hxp (by omega) hop e4 (fun _ => hq) (fun h => by omega), fun q hq => y_room2 (by omega) (by omega) (by omega) hyp (by omega) hop e4 (fun _ => hq) (fun h => by omega), Or.inl rfl⟩
/-- is c in scope -/
theorem bd_scope (hG : (cb_G L st N oc pc E lv kd SC op a b fi nx xp xl xo pa yp)) (c : Int32) : ∃ r : Int32, (∀ q : Int32 → Prop, q r → wpX_inScope q ((nI dep), (nI fu), (nI N), (nI L), xF, xV, xC, xs, ph, cr, ec, en, ft, bt, pr, op, a, b, xp, fi, xl, nx, xo, fn, fe, vn, vo, vv, xst, xf, xr, xh, xc, fN, fX, fS, fT, fL, pv) c) ∧ (∀ q : Int32 → Prop, q r → wpY_inScope q ((nI dep), (nI fu), (nI N), (cb_i L st), (nI L), xV, xF, xC, ys, yft, bt, res, yer, ypl, pr, rn, hs, gv, gt, op, a, b, pa, fi, nx, yp, wn, wu, gn, ge, wv, yl, ya, ye, yk, yt, yc, yst, yf, yr, ou) c) ∧ ((r = 0 ∧ ¬ cb_sc L st oc pc a b c) ∨ (r = 1 ∧ cb_sc L st oc pc a b c)) := by
  have hG' := hG
  obtain ⟨⟨g1, g2, g3, g4⟩, g5, g6, g7, g8⟩ := hG
  have hy := y_sc (c := c) (yd := nI dep) (yg := nI fu) (yN := nI N) (yi := cb_i L st) (yo := nI L) (yV := xV) (yF := xF) (yC := xC) (ys := ys) (yft := yft) (ybt := bt) (res := res) (yer := yer) (ypl := ypl) (ypr := pr) (rn := rn) (hs := hs) (gv := gv) (gt := gt) (op := op) (a := a) (b := b) (pa := pa) (fi := fi) (nx := nx) (yp := yp) (wn := wn) (wu := wu) (gn := gn) (ge := ge) (wv := wv) (yl := yl) (ya := ya) (ye := ye) (yk := yk) (yt := yt) (yc := yc) (yst := yst) (yf := yf) (yr := yr) (ou := ou) (L := L) (st := st) (oc := oc) (pc := pc) g2 rfl (fun i hi => by
    obtain ⟨e1, e2, e3, e4, e5, e6, e7, e8⟩ := g5 i hi
    have hpn := (g6 (st i) e1).1.2.2.2
    exact ⟨by omega, (g6 (st i) e1).1.2.1, by omega, e3, (g7 (st i) e1).1, by omega, fun h => (e7 h).1⟩)
  rcases x_sc (c := c) (xd := nI dep) (xg := nI fu) (xN := nI N) (xF := xF) (xV := xV) (xC := xC) (xs := xs) (ph := ph) (cr := cr) (ec := ec) (en := en) (ft := ft) (bt := bt) (pr := pr) (op := op) (a := a) (b := b) (xp := xp) (fi := fi) (xl := xl) (nx := nx) (xo := xo) (fn := fn) (fe := fe) (vn := vn) (vo := vo) (vv := vv) (xst := xst) (xf := xf) (xr := xr) (xh := xh) (xc := xc) (fN := fN) (fX := fX) (fS := fS) (fT := fT) (fL := fL) (pv := pv) (L := L) (st := st) (oc := oc) (pc := pc) g2 (fun i hi => by
    obtain ⟨e1, e2, e3, e4, e5, e6, e7, e8⟩ := g5 i hi
    have hpn := (g6 (st i) e1).1.2.2.2
    refine ⟨by omega, e2, (g6 (st i) e1).1.2.1, by omega, ?_, ?_⟩
    · unfold cb_q
      by_cases h : i + 1 < L
      · rw [if_pos h]; exact (e7 h).2.2
      · rw [if_neg h]
        exact (g7 (st i) e1).2.1 (fun j hj e => by have := cb_inj hG' (by omega) hi e; omega)
    · unfold cb_q; split <;> omega) with ⟨m1, m2⟩ | ⟨m1, m2⟩
  · exact ⟨1, m2, hy.1 m1, Or.inr ⟨rfl, m1⟩⟩
  · exact ⟨0, m2, hy.2 m1, Or.inl ⟨rfl, m1⟩⟩
end
