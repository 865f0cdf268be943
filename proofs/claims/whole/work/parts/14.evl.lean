section
variable {xd xg xN xL xF xV xC xs ph : Int32} {cr : Int64} {ec en ft bt pr : Int32} {op a b xp fi xl nx xo fn fe vn vo : Nat → Int32} {vv : Nat → Int64} {xst xf xr xh xc fN fX fS fT : Nat → Int32} {fL pv : Nat → Int64}
variable {post : SX → Prop}
theorem x_bNum {m : Nat} {sc : Int32} (hm : m < 96) (ho : op m = 20) (K : post (xd, xg, xN, xL, xF, xV, xC, xs, (-2), (lN (cv_n (a m) + 4294967296)), ec, en, ft, bt, pr, op, a, b, xp, fi, xl, nx, xo, fn, fe, vn, vo, vv, xst, xf, xr, xh, xc, fN, fX, fS, fT, fL, pv)) : wpX_begin post (xd, xg, xN, xL, xF, xV, xC, xs, ph, cr, ec, en, ft, bt, pr, op, a, b, xp, fi, xl, nx, xo, fn, fe, vn, vo, vv, xst, xf, xr, xh, xc, fN, fX, fS, fT, fL, pv) (nI m) sc := by
  have em := nc_ (n := m) (by omega)
  have wm := vi_ (n := m) (N := 96) hm (by omega)
  refine ⟨wm, nm_r (e' := op m) (by rw [em]) (br_f (by rw [ho]; decide) (br_t ho ⟨wm, ?_⟩))⟩
  unfold wpX_valueOf
  rw [em, vo_1]
  exact K
theorem x_bName {m : Nat} {sc : Int32} {p : Nat} (hm : m < 96) (ho : op m = 21) (hp : p < 120) (hf : ∀ post : Int32 → Prop, post (nI (p + 1)) → wpX_findVariable post (xd, xg, xN, xL, xF, xV, xC, xs, ph, cr, ec, en, ft, bt, pr, op, a, b, xp, fi, xl, nx, xo, fn, fe, vn, vo, vv, xst, xf, xr, xh, xc, fN, fX, fS, fT, fL, pv) (a m) sc) (K : post (xd, xg, xN, xL, xF, xV, xC, xs, (-2), (vv (p + 1)), ec, en, ft, bt, pr, op, a, b, xp, fi, xl, nx, xo, fn, fe, vn, vo, vv, xst, xf, xr, xh, xc, fN, fX, fS, fT, fL, pv)) : wpX_begin post (xd, xg, xN, xL, xF, xV, xC, xs, ph, cr, ec, en, ft, bt, pr, op, a, b, xp, fi, xl, nx, xo, fn, fe, vn, vo, vv, xst, xf, xr, xh, xc, fN, fX, fS, fT, fL, pv) (nI m) sc := by
  have em := nc_ (n := m) (by omega)
  have ep := nc_ (n := p + 1) (by omega)
  have wm := vi_ (n := m) (N := 96) hm (by omega)
  have w := vi_ (n := p + 1) (N := 121) (by omega) (by omega)
  refine ⟨wm, nm_r (e' := op m) (by rw [em]) (br_f (by rw [ho]; decide) (br_f (by rw [ho]; decide) (br_t ho ⟨wm, ?_⟩)))⟩
  rw [em]
  exact hf _ ⟨w, nm_r (e' := vv (p + 1)) (by rw [ep]) K⟩
theorem x_bFun {m F : Nat} {sc : Int32} (hm : m < 96) (ho : op m = 10) (hF : F < 40) (K : post (xd, xg, xN, xL, (nI (F + 1)), xV, xC, xs, (-2), (lN (8589934592 + F)), ec, en, ft, bt, pr, op, a, b, xp, fi, xl, nx, xo, (upd fn F (nI m)), (upd fe F sc), vn, vo, vv, xst, xf, xr, xh, xc, fN, fX, fS, fT, fL, pv)) : wpX_begin post (xd, xg, xN, xL, (nI F), xV, xC, xs, ph, cr, ec, en, ft, bt, pr, op, a, b, xp, fi, xl, nx, xo, fn, fe, vn, vo, vv, xst, xf, xr, xh, xc, fN, fX, fS, fT, fL, pv) (nI m) sc := by
  have em := nc_ (n := m) (by omega)
  have eF := nc_ (n := F) (by omega)
  have wm := vi_ (n := m) (N := 96) hm (by omega)
  have w := vi_ (n := F) (N := 40) hF (by omega)
  refine ⟨wm, nm_r (e' := op m) (by rw [em]) (br_t ho (br_t (nI_lt (b := 40) hF (by omega)) ⟨w, nm_r (e' := upd fn F (nI m)) (by rw [eF]) ⟨w, nm_r (e' := upd fe F sc) (by rw [eF]) ?_⟩⟩))⟩
  unfold wpX_valueOf
  rw [vo_2 (by omega)]
  exact nm_r (nI_1 F) K
theorem x_bFun7 {m : Nat} {sc : Int32} (hm : m < 96) (ho : op m = 10) (K : wpX_raise post (xd, xg, xN, xL, (nI 40), xV, xC, xs, ph, cr, ec, en, ft, bt, pr, op, a, b, xp, fi, xl, nx, xo, fn, fe, vn, vo, vv, xst, xf, xr, xh, xc, fN, fX, fS, fT, fL, pv) 7 (nI m)) : wpX_begin post (xd, xg, xN, xL, (nI 40), xV, xC, xs, ph, cr, ec, en, ft, bt, pr, op, a, b, xp, fi, xl, nx, xo, fn, fe, vn, vo, vv, xst, xf, xr, xh, xc, fN, fX, fS, fT, fL, pv) (nI m) sc := by
  have em := nc_ (n := m) (by omega)
  have wm := vi_ (n := m) (N := 96) hm (by omega)
  exact ⟨wm, nm_r (e' := op m) (by rw [em]) (br_t ho (br_f (by decide) K))⟩
theorem x_bPush {s h m o : Nat} {sc z : Int32} (hs : s < 7) (hh : xh s = nI h) (hb : h < 128) (hm : m < 96) (ho : op m = nI o) (ho1 : o < 20) (ho2 : o ≠ 10) (hz1 : op m = 7 → z = -1) (hz2 : ¬ op m = 7 → z = fi m)
    (K : post (xd, xg, xN, xL, xF, xV, xC, (nI s), ph, cr, ec, en, ft, bt, pr, op, a, b, xp, fi, xl, nx, xo, fn, fe, vn, vo, vv, xst, xf, xr, (upd xh s (nI (h + 1))), xc, (upd fN (s * 128 + h) (nI m)), (upd fX (s * 128 + h) z), (upd fS (s * 128 + h) sc), (upd fT (s * 128 + h) 0), (vp_updL fL ((s * 128 + h) * 4) 0), pv)) : wpX_begin post (xd, xg, xN, xL, xF, xV, xC, (nI s), ph, cr, ec, en, ft, bt, pr, op, a, b, xp, fi, xl, nx, xo, fn, fe, vn, vo, vv, xst, xf, xr, xh, xc, fN, fX, fS, fT, fL, pv) (nI m) sc := by
  have em := nc_ (n := m) (by omega)
  have wm := vi_ (n := m) (N := 96) hm (by omega)
  have ne : ∀ j, j < 30 → j ≠ o → ¬ op m = nI j := by
    intro j hj hjo e
    rw [ho] at e
    have := (nI_eq (by omega) (by omega)).mp e
    omega
  exact ⟨wm, nm_r (e' := op m) (by rw [em]) (br_f (ne 10 (by omega) (by omega)) (br_f (ne 20 (by omega) (by omega)) (br_f (ne 21 (by omega) (by omega)) (x_push hs hh hb hm hz1 hz2 K))))⟩
/-- a frame without a next part ends: to conclude -/
theorem x_adv1 {s h : Nat} (hs : s < 7) (hh : xh s = nI (h + 1)) (hb : h < 128) (hx : fX (s * 128 + h) = -1) (K : wpX_conclude post (xd, xg, xN, xL, xF, xV, xC, (nI s), ph, cr, ec, en, ft, bt, pr, op, a, b, xp, fi, xl, nx, xo, fn, fe, vn, vo, vv, xst, xf, xr, xh, xc, fN, fX, fS, fT, fL, pv) (nI (s * 128 + h))) : wpX_advance post (xd, xg, xN, xL, xF, xV, xC, (nI s), ph, cr, ec, en, ft, bt, pr, op, a, b, xp, fi, xl, nx, xo, fn, fe, vn, vo, vv, xst, xf, xr, xh, xc, fN, fX, fS, fT, fL, pv) := by
  have ei := nc_ (n := s * 128 + h) (by omega)
  have wi := vi_ (n := s * 128 + h) (N := 896) (by omega) (by omega)
  unfold wpX_advance
  dsimp only
  refine x_top hs hh ?_
  exact ⟨wi, nm_r (e' := fX (s * 128 + h)) (by rw [ei]) (br_t hx K)⟩
/-- conclude, down to the kind of list -/
theorem x_con19 {s h m : Nat} (hs : s < 7) (hh : xh s = nI (h + 1)) (hb : h < 128) (hn : fN (s * 128 + h) = nI m) (hm : m < 96) (ho : op m = 19) (K : post (xd, xg, xN, xL, xF, xV, xC, (nI s), (-2), (lN (cv_n ft + 4294967296)), ec, en, ft, bt, pr, op, a, b, xp, fi, xl, nx, xo, fn, fe, vn, vo, vv, xst, xf, xr, (upd xh s (nI h)), xc, fN, fX, fS, fT, fL, pv)) : wpX_conclude post (xd, xg, xN, xL, xF, xV, xC, (nI s), ph, cr, ec, en, ft, bt, pr, op, a, b, xp, fi, xl, nx, xo, fn, fe, vn, vo, vv, xst, xf, xr, xh, xc, fN, fX, fS, fT, fL, pv) (nI (s * 128 + h)) := by
  have ei := nc_ (n := s * 128 + h) (by omega)
  have em := nc_ (n := m) (by omega)
  have wm := vi_ (n := m) (N := 96) hm (by omega)
  have wi := vi_ (n := s * 128 + h) (N := 896) (by omega) (by omega)
  have w4 : vp_in (nI (s * 128 + h) * 4) 3584 := by rw [ix_4]; exact vi_ (by omega) (by omega)
  refine ⟨wi, ?_, nm_r (e' := op m) (by rw [ei, hn, em]) ⟨w4, nm_e ?_⟩⟩
  · rw [ei, hn]; exact wm
  · rw [ho]
    exact br_f (by decide) (br_f (by decide) (br_f (by decide) (br_f (by decide) (br_f (by decide) (br_f (by decide) (br_f (by decide) (br_f (by decide) (br_f (by decide) (br_f (by decide) (br_f (by decide) (br_f (by decide) (br_f (by decide) (br_f (by decide) (br_f (by decide) (br_f (by decide) (br_f (by decide) (br_t rfl (x_num hs hh K))))))))))))))))))
theorem x_con6 {s h m : Nat} (hs : s < 7) (hh : xh s = nI (h + 1)) (hb : h < 128) (hn : fN (s * 128 + h) = nI m) (hm : m < 96) (ho : op m = 6) (K : post (xd, xg, xN, xL, xF, xV, xC, (nI s), (-2), (fL ((s * 128 + h) * 4)), ec, en, ft, bt, pr, op, a, b, xp, fi, xl, nx, xo, fn, fe, vn, vo, vv, xst, xf, xr, (upd xh s (nI h)), xc, fN, fX, fS, fT, fL, pv)) : wpX_conclude post (xd, xg, xN, xL, xF, xV, xC, (nI s), ph, cr, ec, en, ft, bt, pr, op, a, b, xp, fi, xl, nx, xo, fn, fe, vn, vo, vv, xst, xf, xr, xh, xc, fN, fX, fS, fT, fL, pv) (nI (s * 128 + h)) := by
  have ei := nc_ (n := s * 128 + h) (by omega)
  have e4 := nc_ (n := (s * 128 + h) * 4) (by omega)
  have em := nc_ (n := m) (by omega)
  have wm := vi_ (n := m) (N := 96) hm (by omega)
  have wi := vi_ (n := s * 128 + h) (N := 896) (by omega) (by omega)
  have w4 : vp_in (nI (s * 128 + h) * 4) 3584 := by rw [ix_4]; exact vi_ (by omega) (by omega)
  refine ⟨wi, ?_, nm_r (e' := op m) (by rw [ei, hn, em]) ⟨w4, nm_r (e' := fL ((s * 128 + h) * 4)) (by rw [ix_4, e4]) ?_⟩⟩
  · rw [ei, hn]; exact wm
  · rw [ho]
    exact br_f (by decide) (br_f (by decide) (br_f (by decide) (br_f (by decide) (br_t rfl (x_finish hs hh K)))))
theorem x_con7 {s h m : Nat} (hs : s < 7) (hb : h < 128) (hn : fN (s * 128 + h) = nI m) (hm : m < 96) (ho : op m = 7) (K : wpX_startRound post (xd, xg, xN, xL, xF, xV, xC, (nI s), ph, cr, ec, en, ft, bt, pr, op, a, b, xp, fi, xl, nx, xo, fn, fe, vn, vo, vv, xst, xf, xr, xh, xc, fN, fX, fS, fT, fL, pv) (nI (s * 128 + h))) : wpX_conclude post (xd, xg, xN, xL, xF, xV, xC, (nI s), ph, cr, ec, en, ft, bt, pr, op, a, b, xp, fi, xl, nx, xo, fn, fe, vn, vo, vv, xst, xf, xr, xh, xc, fN, fX, fS, fT, fL, pv) (nI (s * 128 + h)) := by
  have ei := nc_ (n := s * 128 + h) (by omega)
  have em := nc_ (n := m) (by omega)
  have wm := vi_ (n := m) (N := 96) hm (by omega)
  have wi := vi_ (n := s * 128 + h) (N := 896) (by omega) (by omega)
  have w4 : vp_in (nI (s * 128 + h) * 4) 3584 := by rw [ix_4]; exact vi_ (by omega) (by omega)
  refine ⟨wi, ?_, nm_r (e' := op m) (by rw [ei, hn, em]) ⟨w4, nm_e ?_⟩⟩
  · rw [ei, hn]; exact wm
  · rw [ho]
    exact br_f (by decide) (br_f (by decide) (br_f (by decide) (br_f (by decide) (br_f (by decide) (br_t rfl K)))))
theorem x_round1 {s h m q g : Nat} (hs : s < 7) (hb : h < 128) (hn : fN (s * 128 + h) = nI m) (hm : m < 96) (hq : q < g) (hg : g < 1000) (K : post (xd, (nI g), xN, xL, xF, xV, xC, (nI s), ph, cr, ec, en, ft, (nI (q + 1)), pr, op, a, b, xp, fi, xl, nx, xo, fn, fe, vn, vo, vv, xst, xf, xr, xh, xc, fN, (upd fX (s * 128 + h) (fi m)), fS, (upd fT (s * 128 + h) 0), fL, pv)) : wpX_startRound post (xd, (nI g), xN, xL, xF, xV, xC, (nI s), ph, cr, ec, en, ft, (nI q), pr, op, a, b, xp, fi, xl, nx, xo, fn, fe, vn, vo, vv, xst, xf, xr, xh, xc, fN, fX, fS, fT, fL, pv) (nI (s * 128 + h)) := by
  have ei := nc_ (n := s * 128 + h) (by omega)
  have em := nc_ (n := m) (by omega)
  have wm := vi_ (n := m) (N := 96) hm (by omega)
  have wi := vi_ (n := s * 128 + h) (N := 896) (by omega) (by omega)
  unfold wpX_startRound
  dsimp only
  refine x_beat1 hq hg ?_
  dsimp only
  refine (br_f (by decide) ⟨wi, ?_, wi, nm_r (e' := upd fX (s * 128 + h) (fi m)) (by rw [ei, hn, em]) ⟨wi, nm_r (e' := upd fT (s * 128 + h) 0) (by rw [ei]) K⟩⟩)
  rw [ei, hn]; exact wm
theorem x_round0 {s g : Nat} {i : Int32} (hg : g < 1000) (K : post (xd, (nI g), xN, xL, xF, xV, xC, (nI s), 2, cr, ec, en, ft, (nI g), pr, op, a, b, xp, fi, xl, nx, xo, fn, fe, vn, vo, vv, xst, xf, xr, xh, xc, fN, fX, fS, fT, fL, pv)) : wpX_startRound post (xd, (nI g), xN, xL, xF, xV, xC, (nI s), ph, cr, ec, en, ft, (nI g), pr, op, a, b, xp, fi, xl, nx, xo, fn, fe, vn, vo, vv, xst, xf, xr, xh, xc, fN, fX, fS, fT, fL, pv) i := by
  unfold wpX_startRound
  dsimp only
  refine x_beat0 hg ?_
  exact br_t rfl K
end
section
variable {yd yg yN yi yo yV yF yC ys yft ybt res yer ypl ypr rn hs : Int32} {gv gt : Int64} {op a b pa fi nx yp wn wu gn ge : Nat → Int32} {wv : Nat → Int64} {yl ya ye : Nat → Int32} {yk : Nat → Int64} {yt yc yst yf yr : Nat → Int32} {ou : Nat → Int64}
variable {post : SY → Prop}
theorem y_eNum {m : Nat} {sc : Int32} (hm : m < 96) (ho : op m = 20) (K : post (yd, yg, yN, yi, yo, yV, yF, yC, ys, yft, ybt, res, yer, ypl, ypr, rn, 1, gv, (lN (cv_n (a m))), op, a, b, pa, fi, nx, yp, wn, wu, gn, ge, wv, yl, ya, ye, yk, yt, yc, yst, yf, yr, ou)) : wpY_evaluate post (yd, yg, yN, yi, yo, yV, yF, yC, ys, yft, ybt, res, yer, ypl, ypr, rn, hs, gv, gt, op, a, b, pa, fi, nx, yp, wn, wu, gn, ge, wv, yl, ya, ye, yk, yt, yc, yst, yf, yr, ou) (nI m) sc := by
  have em := nc_ (n := m) (by omega)
  have wm := vi_ (n := m) (N := 96) hm (by omega)
  refine ⟨wm, nm_r (e' := op m) (by rw [em]) (br_t ho ⟨wm, ?_⟩)⟩
  rw [em, vo_and]
  exact K
theorem y_eName {m p : Nat} {sc : Int32} (hm : m < 96) (ho : op m = 21) (hp : p < 120) (hf : ∀ post : Int32 → Prop, post (nI p) → wpY_find post (yd, yg, yN, yi, yo, yV, yF, yC, ys, yft, ybt, res, yer, ypl, ypr, rn, hs, gv, gt, op, a, b, pa, fi, nx, yp, wn, wu, gn, ge, wv, yl, ya, ye, yk, yt, yc, yst, yf, yr, ou) (a m) sc) (K : post (yd, yg, yN, yi, yo, yV, yF, yC, ys, yft, ybt, res, yer, ypl, ypr, rn, 1, gv, (wv p), op, a, b, pa, fi, nx, yp, wn, wu, gn, ge, wv, yl, ya, ye, yk, yt, yc, yst, yf, yr, ou)) : wpY_evaluate post (yd, yg, yN, yi, yo, yV, yF, yC, ys, yft, ybt, res, yer, ypl, ypr, rn, hs, gv, gt, op, a, b, pa, fi, nx, yp, wn, wu, gn, ge, wv, yl, ya, ye, yk, yt, yc, yst, yf, yr, ou) (nI m) sc := by
  have em := nc_ (n := m) (by omega)
  have ep := nc_ (n := p) (by omega)
  have wm := vi_ (n := m) (N := 96) hm (by omega)
  have w := vi_ (n := p) (N := 120) (by omega) (by omega)
  refine ⟨wm, nm_r (e' := op m) (by rw [em]) (br_f (by rw [ho]; decide) (br_t ho ⟨wm, ?_⟩))⟩
  rw [em]
  refine hf _ ⟨w, ?_⟩
  rw [ep]
  exact K
theorem y_eFun {m F : Nat} {sc : Int32} (hm : m < 96) (ho : op m = 10) (hF : F < 40) (K : post (yd, yg, yN, yi, yo, yV, (nI (F + 1)), yC, ys, yft, ybt, res, yer, ypl, ypr, rn, 1, gv, (lN (8589934592 + F)), op, a, b, pa, fi, nx, yp, wn, wu, (upd gn F (nI m)), (upd ge F sc), wv, yl, ya, ye, yk, yt, yc, yst, yf, yr, ou)) : wpY_evaluate post (yd, yg, yN, yi, yo, yV, (nI F), yC, ys, yft, ybt, res, yer, ypl, ypr, rn, hs, gv, gt, op, a, b, pa, fi, nx, yp, wn, wu, gn, ge, wv, yl, ya, ye, yk, yt, yc, yst, yf, yr, ou) (nI m) sc := by
  have em := nc_ (n := m) (by omega)
  have eF := nc_ (n := F) (by omega)
  have wm := vi_ (n := m) (N := 96) hm (by omega)
  have w := vi_ (n := F) (N := 40) hF (by omega)
  refine ⟨wm, nm_r (e' := op m) (by rw [em]) (br_f (by rw [ho]; decide) (br_f (by rw [ho]; decide) (br_t ho (br_f (fun z => ?_) ⟨w, nm_r (e' := upd gn F (nI m)) (by rw [eF]) ⟨w, nm_r (e' := upd ge F sc) (by rw [eF]) (nm_r (nI_1 F) ?_)⟩⟩))))⟩
  · have := (nI_eq (a := F) (b := 40) (by omega) (by omega)).mp z
    omega
  · rw [vo_f (by omega)]
    exact K
theorem y_eFun7 {m : Nat} {sc : Int32} (hm : m < 96) (ho : op m = 10) (K : wpY_raise post (yd, yg, yN, yi, yo, yV, (nI 40), yC, ys, yft, ybt, res, yer, ypl, ypr, rn, hs, gv, gt, op, a, b, pa, fi, nx, yp, wn, wu, gn, ge, wv, yl, ya, ye, yk, yt, yc, yst, yf, yr, ou) 7 (nI m)) : wpY_evaluate post (yd, yg, yN, yi, yo, yV, (nI 40), yC, ys, yft, ybt, res, yer, ypl, ypr, rn, hs, gv, gt, op, a, b, pa, fi, nx, yp, wn, wu, gn, ge, wv, yl, ya, ye, yk, yt, yc, yst, yf, yr, ou) (nI m) sc := by
  have em := nc_ (n := m) (by omega)
  have wm := vi_ (n := m) (N := 96) hm (by omega)
  exact ⟨wm, nm_r (e' := op m) (by rw [em]) (br_f (by rw [ho]; decide) (br_f (by rw [ho]; decide) (br_t ho (br_t rfl K))))⟩
theorem y_eFault {m : Nat} {sc : Int32} (hm : m < 96) (ho : op m = 19) (K : post (yd, yg, yN, yi, yo, yV, yF, yC, ys, yft, ybt, res, yer, ypl, ypr, rn, 1, gv, (lN (cv_n yft)), op, a, b, pa, fi, nx, yp, wn, wu, gn, ge, wv, yl, ya, ye, yk, yt, yc, yst, yf, yr, ou)) : wpY_evaluate post (yd, yg, yN, yi, yo, yV, yF, yC, ys, yft, ybt, res, yer, ypl, ypr, rn, hs, gv, gt, op, a, b, pa, fi, nx, yp, wn, wu, gn, ge, wv, yl, ya, ye, yk, yt, yc, yst, yf, yr, ou) (nI m) sc := by
  have em := nc_ (n := m) (by omega)
  have wm := vi_ (n := m) (N := 96) hm (by omega)
  refine ⟨wm, nm_r (e' := op m) (by rw [em]) (br_f (by rw [ho]; decide) (br_f (by rw [ho]; decide) (br_f (by rw [ho]; decide) (br_t ho ?_))))⟩
  rw [vo_and]
  exact K
theorem y_eSeq0 {m : Nat} {sc : Int32} (hm : m < 96) (ho : op m = 6) (hp : yp m = 0) (K : post (yd, yg, yN, yi, yo, yV, yF, yC, ys, yft, ybt, res, yer, ypl, ypr, rn, 1, gv, 4294967296, op, a, b, pa, fi, nx, yp, wn, wu, gn, ge, wv, yl, ya, ye, yk, yt, yc, yst, yf, yr, ou)) : wpY_evaluate post (yd, yg, yN, yi, yo, yV, yF, yC, ys, yft, ybt, res, yer, ypl, ypr, rn, hs, gv, gt, op, a, b, pa, fi, nx, yp, wn, wu, gn, ge, wv, yl, ya, ye, yk, yt, yc, yst, yf, yr, ou) (nI m) sc := by
  have em := nc_ (n := m) (by omega)
  have wm := vi_ (n := m) (N := 96) hm (by omega)
  exact ⟨wm, nm_r (e' := op m) (by rw [em]) (br_f (by rw [ho]; decide) (br_f (by rw [ho]; decide) (br_f (by rw [ho]; decide) (br_f (by rw [ho]; decide) (br_t ho ⟨wm, br_t (by rw [em]; exact hp) K⟩)))))⟩
theorem y_eWh1 {s w m q g : Nat} {sc : Int32} (hm : m < 96) (ho : op m = 7) (hq : q < g) (hg : g < 1000) (h7 : s < 7) (ht : yt s = nI w) (hw : w < 112) (K : post (yd, (nI g), yN, yi, yo, yV, yF, yC, (nI s), yft, (nI (q + 1)), res, yer, ypl, ypr, rn, hs, gv, gt, op, a, b, pa, fi, nx, yp, wn, wu, gn, ge, wv, (upd yl (112 * s + w) (nI m)), (upd ya (112 * s + w) 0), (upd ye (112 * s + w) sc), yk, (upd yt s (nI (w + 1))), yc, yst, yf, yr, ou)) : wpY_evaluate post (yd, (nI g), yN, yi, yo, yV, yF, yC, (nI s), yft, (nI q), res, yer, ypl, ypr, rn, hs, gv, gt, op, a, b, pa, fi, nx, yp, wn, wu, gn, ge, wv, yl, ya, ye, yk, yt, yc, yst, yf, yr, ou) (nI m) sc := by
  have em := nc_ (n := m) (by omega)
  have wm := vi_ (n := m) (N := 96) hm (by omega)
  exact ⟨wm, nm_r (e' := op m) (by rw [em]) (br_f (by rw [ho]; decide) (br_f (by rw [ho]; decide) (br_f (by rw [ho]; decide) (br_f (by rw [ho]; decide) (br_f (by rw [ho]; decide) (br_t ho (y_beat1 hq hg (br_f (by decide) (y_push h7 ht hw K)))))))))⟩
theorem y_eWh0 {s m g : Nat} {sc : Int32} (hm : m < 96) (ho : op m = 7) (K : post (yd, (nI g), yN, yi, yo, yV, yF, yC, (nI s), yft, (nI g), 2, yer, ypl, ypr, 0, hs, 4294967296, gt, op, a, b, pa, fi, nx, yp, wn, wu, gn, ge, wv, yl, ya, ye, yk, yt, yc, yst, yf, yr, ou)) : wpY_evaluate post (yd, (nI g), yN, yi, yo, yV, yF, yC, (nI s), yft, (nI g), res, yer, ypl, ypr, rn, hs, gv, gt, op, a, b, pa, fi, nx, yp, wn, wu, gn, ge, wv, yl, ya, ye, yk, yt, yc, yst, yf, yr, ou) (nI m) sc := by
  have em := nc_ (n := m) (by omega)
  have wm := vi_ (n := m) (N := 96) hm (by omega)
  exact ⟨wm, nm_r (e' := op m) (by rw [em]) (br_f (by rw [ho]; decide) (br_f (by rw [ho]; decide) (br_f (by rw [ho]; decide) (br_f (by rw [ho]; decide) (br_f (by rw [ho]; decide) (br_t ho (y_beat0 (br_t rfl K))))))))⟩
theorem y_ePush {s w m o : Nat} {sc : Int32} (hm : m < 96) (ho : op m = nI o) (ho1 : o < 19) (ho2 : o ≠ 10) (ho3 : o ≠ 7) (hp : ¬ yp m = 0) (h7 : s < 7) (ht : yt s = nI w) (hw : w < 112) (K : post (yd, yg, yN, yi, yo, yV, yF, yC, (nI s), yft, ybt, res, yer, ypl, ypr, rn, hs, gv, gt, op, a, b, pa, fi, nx, yp, wn, wu, gn, ge, wv, (upd yl (112 * s + w) (nI m)), (upd ya (112 * s + w) 0), (upd ye (112 * s + w) sc), yk, (upd yt s (nI (w + 1))), yc, yst, yf, yr, ou)) : wpY_evaluate post (yd, yg, yN, yi, yo, yV, yF, yC, (nI s), yft, ybt, res, yer, ypl, ypr, rn, hs, gv, gt, op, a, b, pa, fi, nx, yp, wn, wu, gn, ge, wv, yl, ya, ye, yk, yt, yc, yst, yf, yr, ou) (nI m) sc := by
  have em := nc_ (n := m) (by omega)
  have wm := vi_ (n := m) (N := 96) hm (by omega)
  have ne : ∀ j, j < 30 → j ≠ o → ¬ op m = nI j := by
    intro j hj hjo e
    rw [ho] at e
    have := (nI_eq (by omega) (by omega)).mp e
    omega
  have hpush := y_push (post := post) (yt := yt) (yl := yl) (ya := ya) (ye := ye) (m := m) (sc := sc) h7 ht hw K
  refine ⟨wm, nm_r (e' := op m) (by rw [em]) (br_f (ne 20 (by omega) (by omega)) (br_f (ne 21 (by omega) (by omega)) (br_f (ne 10 (by omega) (by omega)) (br_f (ne 19 (by omega) (by omega)) (br_c (fun _ => ⟨wm, br_f (by rw [em]; exact hp) (br_f (ne 7 (by omega) (by omega)) hpush)⟩) (fun _ => br_f (ne 7 (by omega) (by omega)) hpush))))))⟩
end
