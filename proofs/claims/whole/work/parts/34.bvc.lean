section
variable {dep fu L N : Nat} {st oc pc E lv : Nat → Nat} {kd : Nat → Nat → Nat} {SC : Nat → Int32 → Prop} {xF xV xC xs ph : Int32} {cr : Int64} {ec en ft bt pr : Int32} {op a b xp fi xl nx xo fn fe vn vo : Nat → Int32} {vv : Nat → Int64} {xst xf xr xh xc fN fX fS fT : Nat → Int32} {fL pv : Nat → Int64} {ys yft res yer ypl rn hs : Int32} {gv gt : Int64} {pa yp wn wu gn ge : Nat → Int32} {wv : Nat → Int64} {yl ya ye : Nat → Int32} {yk : Nat → Int64} {yt yc yst yf yr : Nat → Int32} {ou : Nat → Int64}
/-- a leaf is added, both sides -/
theorem bd_leaf {k o : Nat} {av : Int32} (hI : (ci_R dep fu L st N oc pc E lv kd SC op a b fi nx xp xl xo pa yp ph cr ec en pr pv res yer ypl gv ou)) (hr : (N = 0 ∧ L = 0) ∨ (∃ l, l + 1 = L ∧ N < 96 ∧ pc (st l) < ct_mx (oc (st l)))) (ho : o = 20 ∨ o = 21) (hS : o = 21 → cb_sc L st oc pc a b av) :
    ∃ u2 v2, (∀ post : SX → Prop, post u2 → wpX_addNode (fun u => wpX_countPart post u) ((nI dep), (nI fu), (nI N), (nI L), xF, xV, xC, xs, ph, cr, ec, en, ft, bt, pr, op, a, b, xp, fi, xl, nx, xo, fn, fe, vn, vo, vv, xst, xf, xr, xh, xc, fN, fX, fS, fT, fL, pv) (nI o) av 0) ∧ (∀ post : SY → Prop, post v2 → wpY_add post ((nI dep), (nI fu), (nI N), (cb_i L st), (nI L), xV, xF, xC, ys, yft, bt, res, yer, ypl, pr, rn, hs, gv, gt, op, a, b, pa, fi, nx, yp, wn, wu, gn, ge, wv, yl, ya, ye, yk, yt, yc, yst, yf, yr, ou) (nI o) av 0) ∧ i_Rel k u2 v2 := by
  obtain ⟨h1, hG, h3⟩ := hI
  rcases hr with ⟨rfl, rfl⟩ | ⟨l, rfl, hN, hp⟩
  · have ho20 : o = 20 := by
      rcases ho with h | h
      · exact h
      · obtain ⟨i, hi, _⟩ := hS h; omega
    exact ⟨_, _, fun post KK => x_add0 (by omega) (x_cnt0 KK), fun post KK => y_add0 (by omega) KK, ci_mk (k := k) (L := 0) (N := 1) (st := st) ⟨h1, cb_leaf0 (av := av) (bv := 0) hG ho20, h3⟩⟩
  · have hG' := hG
    obtain ⟨⟨g1, g2, g3, g4⟩, g5, g6, g7, g8⟩ := hG
    obtain ⟨e1, e2, e3, e4, e5, e6, e7, e8⟩ := g5 l (by omega)
    have hinj : ∀ i, i + 1 < l + 1 → st i ≠ st l := fun i hi e => by have := e6 i (by omega); omega
    have hxp := (g7 (st l) e1).2.1 hinj
    have hyp := (g7 (st l) e1).1
    have nd := g6 (st l) e1
    have hci : cb_i (l + 1) st = nI (st l) := by unfold cb_i; rw [if_neg (by omega), Nat.add_sub_cancel]
    have hkd := nd.2.2.2.2.2.1
    have hG2 := cb_leaf (o := o) (av := av) (bv := 0) hG' rfl hN hp ho hS rfl rfl
    refine ⟨_, _, fun post KK => x_add1 (p := pc (st l)) (z := kd (st l) (pc (st l) - 1)) hN (by omega) e2 (by omega) nd.2.2.2.2.1.1 (fun h => ⟨kd (st l) 0, by have := (hkd 0 h).2.1; omega, nd.2.2.2.2.1.2 h⟩) (fun h => ⟨(g7 (st l) e1).2.2 h, by have := (hkd (pc (st l) - 1) (by omega)).2.1; omega⟩) (x_cnt1 (by omega) e2 (by omega) ((pk_un (by omega)).trans hxp) KK), fun post KK => by
      rw [hci]
      exact y_add1 (p := pc (st l)) (kd := kd (st l)) hN e1 hyp nd.2.2.2.2.1.1 nd.2.2.2.2.1.2 (fun i hi => (hkd i hi).2.1) (fun i hi => ((hkd i (by omega)).2.2.2.2.1 hi).1) (fun h => (hkd (pc (st l) - 1) (by omega)).2.2.2.2.2.1 (by omega)) KK, ?_⟩
    have := ci_mk (k := k) (L := l + 1) (N := N + 1) (st := st) (dep := dep) (fu := fu) (xF := xF) (xV := xV) (xC := xC) (xs := xs) (ph := ph) (cr := cr) (ec := ec) (en := en) (ft := ft) (bt := bt) (pr := pr) (fn := fn) (fe := fe) (vn := vn) (vo := vo) (vv := vv) (xst := xst) (xf := xf) (xr := xr) (xh := xh) (xc := xc) (fN := fN) (fX := fX) (fS := fS) (fT := fT) (fL := fL) (pv := pv) (ys := ys) (yft := yft) (res := res) (yer := yer) (ypl := ypl) (rn := rn) (hs := hs) (gv := gv) (gt := gt) (wn := wn) (wu := wu) (gn := gn) (ge := ge) (wv := wv) (yl := yl) (ya := ya) (ye := ye) (yk := yk) (yt := yt) (yc := yc) (yst := yst) (yf := yf) (yr := yr) (ou := ou) ⟨h1, hG2, h3⟩
    rw [hci] at this
    exact this
theorem i_vc_num {k : Nat} {u : SX} {v : SY} (I : i_Rel k u v) (hk : k + 4 ≤ 2050) (v1 : Int32) : wpX_num (fun r u' => wpY_num (fun r' v' => r' = r ∧ i_Rel (k + 4) u' v') v v1) u v1 := by
  have J := i_up I
  obtain ⟨dep, fu, L, N, st, oc, pc, E, lv, kd, SC, xF, xV, xC, xs, ph, cr, ec, en, ft, bt, pr, op, a, b, xp, fi, xl, nx, xo, fn, fe, vn, vo, vv, xst, xf, xr, xh, xc, fN, fX, fS, fT, fL, pv, ys, yft, res, yer, ypl, rn, hs, gv, gt, pa, yp, wn, wu, gn, ge, wv, yl, ya, ye, yk, yt, yc, yst, yf, yr, ou, rfl, rfl, hI⟩ := I
  obtain ⟨r, rX, rY, rr⟩ := bd_room hI.2.1
  rcases rr with rfl | ⟨rfl, hr⟩
  · unfold wpX_num
    dsimp only
    refine rX _ (br_t rfl ?_)
    unfold wpY_num
    dsimp only
    exact rY _ (br_t rfl ⟨rfl, J⟩)
  · obtain ⟨u2, v2, aX, aY, aI⟩ := bd_leaf (k := k + 4) (o := 20) (av := v1) hI hr (Or.inl rfl) (fun h => by omega)
    unfold wpX_num
    dsimp only
    refine rX _ (br_f (by decide) ?_)
    refine aX (fun u => wpY_num (fun r' v' => r' = 1 ∧ i_Rel (k + 4) u v') ((nI dep), (nI fu), (nI N), (cb_i L st), (nI L), xV, xF, xC, ys, yft, bt, res, yer, ypl, pr, rn, hs, gv, gt, op, a, b, pa, fi, nx, yp, wn, wu, gn, ge, wv, yl, ya, ye, yk, yt, yc, yst, yf, yr, ou) v1) ?_
    unfold wpY_num
    dsimp only
    refine rY _ (br_f (by decide) ?_)
    exact aY (fun v => (1 : Int32) = 1 ∧ i_Rel (k + 4) u2 v) ⟨rfl, aI⟩
theorem i_vc_name {k : Nat} {u : SX} {v : SY} (I : i_Rel k u v) (hk : k + 4 ≤ 2050) (v1 : Int32) : wpX_name (fun r u' => wpY_name (fun r' v' => r' = r ∧ i_Rel (k + 4) u' v') v v1) u v1 := by
  have J := i_up I
  obtain ⟨dep, fu, L, N, st, oc, pc, E, lv, kd, SC, xF, xV, xC, xs, ph, cr, ec, en, ft, bt, pr, op, a, b, xp, fi, xl, nx, xo, fn, fe, vn, vo, vv, xst, xf, xr, xh, xc, fN, fX, fS, fT, fL, pv, ys, yft, res, yer, ypl, rn, hs, gv, gt, pa, yp, wn, wu, gn, ge, wv, yl, ya, ye, yk, yt, yc, yst, yf, yr, ou, rfl, rfl, hI⟩ := I
  obtain ⟨r, rX, rY, rr⟩ := bd_room hI.2.1
  rcases rr with rfl | ⟨rfl, hr⟩
  · unfold wpX_name
    dsimp only
    refine rX _ (br_t rfl ?_)
    unfold wpY_name
    dsimp only
    exact rY _ (br_t rfl ⟨rfl, J⟩)
  · obtain ⟨z, zX, zY, zz⟩ := bd_scope hI.2.1 v1
    rcases zz with ⟨rfl, z1⟩ | ⟨rfl, z1⟩
    · unfold wpX_name
      dsimp only
      refine rX _ (br_f (by decide) (zX _ (br_t rfl ?_)))
      unfold wpY_name
      dsimp only
      exact rY _ (br_f (by decide) (zY _ (br_t rfl ⟨rfl, J⟩)))
    · obtain ⟨u2, v2, aX, aY, aI⟩ := bd_leaf (k := k + 4) (o := 21) (av := v1) hI hr (Or.inr rfl) (fun _ => z1)
      unfold wpX_name
      dsimp only
      refine rX _ (br_f (by decide) (zX _ (br_f (by decide) ?_)))
      refine aX (fun u => wpY_name (fun r' v' => r' = 1 ∧ i_Rel (k + 4) u v') ((nI dep), (nI fu), (nI N), (cb_i L st), (nI L), xV, xF, xC, ys, yft, bt, res, yer, ypl, pr, rn, hs, gv, gt, op, a, b, pa, fi, nx, yp, wn, wu, gn, ge, wv, yl, ya, ye, yk, yt, yc, yst, yf, yr, ou) v1) ?_
      unfold wpY_name
      dsimp only
      refine rY _ (br_f (by decide) (zY _ (br_f (by decide) ?_)))
      exact aY (fun v => (1 : Int32) = 1 ∧ i_Rel (k + 4) u2 v) ⟨rfl, aI⟩
end
