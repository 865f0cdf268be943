section
variable {dep fu L N : Nat} {st oc pc E lv : Nat → Nat} {kd : Nat → Nat → Nat} {SC : Nat → Int32 → Prop} {xF xV xC xs ph : Int32} {cr : Int64} {ec en ft bt pr : Int32} {op a b xp fi xl nx xo fn fe vn vo : Nat → Int32} {vv : Nat → Int64} {xst xf xr xh xc fN fX fS fT : Nat → Int32} {fL pv : Nat → Int64} {ys yft res yer ypl rn hs : Int32} {gv gt : Int64} {pa yp wn wu gn ge : Nat → Int32} {wv : Nat → Int64} {yl ya ye : Nat → Int32} {yk : Nat → Int64} {yt yc yst yf yr : Nat → Int32} {ou : Nat → Int64}
theorem i_vc_open {k : Nat} {u : SX} {v : SY} (I : i_Rel k u v) (hk : k + 4 ≤ 2050) (v1 : Int32) (v2 : Int32) (v3 : Int32) : wpX_open (fun r u' => wpY_open (fun r' v' => r' = r ∧ i_Rel (k + 4) u' v') v v1 v2 v3) u v1 v2 v3 := by
  have J := i_up I
  obtain ⟨dep, fu, L, N, st, oc, pc, E, lv, kd, SC, xF, xV, xC, xs, ph, cr, ec, en, ft, bt, pr, op, a, b, xp, fi, xl, nx, xo, fn, fe, vn, vo, vv, xst, xf, xr, xh, xc, fN, fX, fS, fT, fL, pv, ys, yft, res, yer, ypl, rn, hs, gv, gt, pa, yp, wn, wu, gn, ge, wv, yl, ya, ye, yk, yt, yc, yst, yf, yr, ou, rfl, rfl, h1, hG, h3⟩ := I
  have hG' := hG
  obtain ⟨r, rX, rY, rr⟩ := bd_room hG
  unfold wpX_open
  dsimp only
  rcases rr with rfl | ⟨rfl, hr⟩
  · refine rX _ (br_t rfl ?_)
    unfold wpY_open
    dsimp only
    exact rY _ (br_t rfl ⟨rfl, J⟩)
  · have hL16 := hG.1.2.1
    rcases Nat.lt_or_ge L 16 with hL | hL
    · refine rX _ (br_f (by decide) (br_f (nI_ge (b := 16) hL (by omega)) ?_))
      obtain ⟨z, zX, zz⟩ := bd_fit (v1 := v1) (v2 := v2) (v3 := v3) hG rY hL
      refine zX _ ?_
      rcases zz with ⟨rfl, zY⟩ | ⟨rfl, ⟨o, ho, rfl, o10, o9⟩, zY⟩
      · exact br_t rfl (zY _ ⟨rfl, J⟩)
      · refine br_f (by decide) ?_
        rcases hr with ⟨rfl, rfl⟩ | ⟨l, rfl, hN, hp⟩
        · refine x_add0 (by omega) ?_
          dsimp only
          refine ⟨vi_ (by omega) (by omega), nm_r (e' := upd xo 0 0) rfl (nm_r (e' := nI 1) rfl ?_)⟩
          refine zY _ ?_
          unfold wY_open_89
          refine y_add0 (by omega) ?_
          dsimp only
          refine nm_r (e' := nI 0) rfl (nm_r (e' := nI 1) rfl ⟨rfl, ?_⟩)
          exact ci_mk (k := k + 4) (L := 1) (N := 1) (st := nu_ st 0 0) ⟨h1, cb_open0 (av := v2) (bv := v3) hG ho (fun h => by obtain ⟨i, hi, _⟩ := o9 h; omega) o10, h3⟩
        · obtain ⟨⟨g1, g2, g3, g4⟩, g5, g6, g7, g8⟩ := hG
          obtain ⟨e1, e2, e3, e4, e5, e6, e7, e8⟩ := g5 l (by omega)
          have hyp := (g7 (st l) e1).1
          have nd := g6 (st l) e1
          have hci : cb_i (l + 1) st = nI (st l) := by unfold cb_i; rw [if_neg (by omega), Nat.add_sub_cancel]
          have hkd := nd.2.2.2.2.2.1
          have hG2 := cb_open (o := o) (av := v2) (bv := v3) hG' rfl hN hL hp ho o10 o9 rfl rfl
          have e16 := nc_ (n := l + 1) (by omega)
          refine x_add1 (p := pc (st l)) (z := kd (st l) (pc (st l) - 1)) hN (by omega) e2 (by omega) nd.2.2.2.2.1.1 (fun h => ⟨kd (st l) 0, by have := (hkd 0 h).2.1; omega, nd.2.2.2.2.1.2 h⟩) (fun h => ⟨(g7 (st l) e1).2.2 h, by have := (hkd (pc (st l) - 1) (by omega)).2.1; omega⟩) ?_
          dsimp only
          refine ⟨vi_ (by omega) (by omega), nm_r (e' := upd xo (l + 1) (nI N)) (by rw [e16]) (nm_r (e' := nI (l + 1 + 1)) (nI_1 _) ?_)⟩
          refine zY _ ?_
          unfold wY_open_89
          rw [hci]
          refine y_add1 (p := pc (st l)) (kd := kd (st l)) hN e1 hyp nd.2.2.2.2.1.1 nd.2.2.2.2.1.2 (fun i hi => (hkd i hi).2.1) (fun i hi => ((hkd i (by omega)).2.2.2.2.1 hi).1) (fun h => (hkd (pc (st l) - 1) (by omega)).2.2.2.2.2.1 (by omega)) ?_
          dsimp only
          refine nm_r (e' := nI N) (nI_pred N) (nm_r (e' := nI (l + 1 + 1)) (nI_1 _) ⟨rfl, ?_⟩)
          have := ci_mk (k := k + 4) (L := l + 1 + 1) (N := N + 1) (st := nu_ st (l + 1) N) (dep := dep) (fu := fu) (xF := xF) (xV := xV) (xC := xC) (xs := xs) (ph := ph) (cr := cr) (ec := ec) (en := en) (ft := ft) (bt := bt) (pr := pr) (fn := fn) (fe := fe) (vn := vn) (vo := vo) (vv := vv) (xst := xst) (xf := xf) (xr := xr) (xh := xh) (xc := xc) (fN := fN) (fX := fX) (fS := fS) (fT := fT) (fL := fL) (pv := pv) (ys := ys) (yft := yft) (res := res) (yer := yer) (ypl := ypl) (rn := rn) (hs := hs) (gv := gv) (gt := gt) (wn := wn) (wu := wu) (gn := gn) (ge := ge) (wv := wv) (yl := yl) (ya := ya) (ye := ye) (yk := yk) (yt := yt) (yc := yc) (yst := yst) (yf := yf) (yr := yr) (ou := ou) ⟨h1, hG2, h3⟩
          have hci2 : cb_i (l + 1 + 1) (nu_ st (l + 1) N) = nI N := by unfold cb_i; rw [if_neg (by omega), Nat.add_sub_cancel, nu_s]
          rw [hci2] at this
          exact this
    · obtain rfl : L = 16 := by omega
      refine rX _ (br_f (by decide) (br_t (by decide) ?_))
      unfold wpY_open
      dsimp only
      exact rY _ (br_f (by decide) (br_t rfl ⟨rfl, J⟩))
end
