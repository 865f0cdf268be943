section
variable {xd xg xN xL xF xV xC xs ph : Int32} {cr : Int64} {ec en ft bt pr : Int32} {op a b xp fi xl nx xo fn fe vn vo : Nat → Int32} {vv : Nat → Int64} {xst xf xr xh xc fN fX fS fT : Nat → Int32} {fL pv : Nat → Int64}
variable {post : SX → Prop}
theorem nc_ {n : Nat} (h : n < 2147483648) : (nI n).toNatClampNeg = n := nI_clamp h
theorem vi_ {n N : Nat} (h : n < N) (hN : N < 2147483648) : vp_in (nI n) N := vp_in_nI h hN
theorem ix_x (s h : Nat) : (nI s * 128 + nI (h + 1)) - 1 = nI (s * 128 + h) := by
  show (nI s * nI 128 + nI (h + 1)) - nI 1 = _
  rw [pk_mul, nI_add, pk_sub (by omega)]
  exact congrArg nI (by omega)
theorem ix_x0 (s h : Nat) : nI s * 128 + nI h = nI (s * 128 + h) := by
  show nI s * nI 128 + nI h = _
  rw [pk_mul, nI_add]
theorem ix_4 (i : Nat) : nI i * 4 = nI (i * 4) := by
  show nI i * nI 4 = _
  rw [pk_mul]
theorem ix_41 (i : Nat) : nI i * 4 + 1 = nI (i * 4 + 1) := by rw [ix_4, nI_1]
theorem ix_y (s w : Nat) : (112 * nI s + nI (w + 1)) - 1 = nI (112 * s + w) := by
  show (nI 112 * nI s + nI (w + 1)) - nI 1 = _
  rw [pk_mul, nI_add, pk_sub (by omega)]
  exact congrArg nI (by omega)
theorem ix_y0 (s w : Nat) : 112 * nI s + nI w = nI (112 * s + w) := by
  show nI 112 * nI s + nI w = _
  rw [pk_mul, nI_add]
theorem ix_3 (p : Nat) : 3 * nI p = nI (3 * p) := by
  show nI 3 * nI p = _
  rw [pk_mul]
theorem x_finish {s h : Nat} {val : Int64} (hs : s < 7) (hh : xh s = nI (h + 1)) (K : post (xd, xg, xN, xL, xF, xV, xC, (nI s), (-2), val, ec, en, ft, bt, pr, op, a, b, xp, fi, xl, nx, xo, fn, fe, vn, vo, vv, xst, xf, xr, (upd xh s (nI h)), xc, fN, fX, fS, fT, fL, pv)) : wpX_finish post (xd, xg, xN, xL, xF, xV, xC, (nI s), ph, cr, ec, en, ft, bt, pr, op, a, b, xp, fi, xl, nx, xo, fn, fe, vn, vo, vv, xst, xf, xr, xh, xc, fN, fX, fS, fT, fL, pv) val := by
  have e := nc_ (n := s) (by omega)
  have w := vi_ (n := s) (N := 7) hs (by omega)
  exact ⟨w, w, nm_r (e' := upd xh s (nI h)) (by rw [e, hh, nI_pred]) K⟩
theorem x_hb {s r h : Nat} {val : Int64} (hs : s < 7) (hr : r < 7) (hx : xr s = nI r) (hh : xh r = nI (h + 1)) (K : post (xd, xg, xN, xL, xF, xV, xC, (nI r), (-2), val, ec, en, ft, bt, pr, op, a, b, xp, fi, xl, nx, xo, fn, fe, vn, vo, vv, xst, xf, xr, (upd xh r (nI h)), xc, fN, fX, fS, fT, fL, pv)) : wpX_handBack post (xd, xg, xN, xL, xF, xV, xC, (nI s), ph, cr, ec, en, ft, bt, pr, op, a, b, xp, fi, xl, nx, xo, fn, fe, vn, vo, vv, xst, xf, xr, xh, xc, fN, fX, fS, fT, fL, pv) val := by
  have e := nc_ (n := s) (by omega)
  have er := nc_ (n := r) (by omega)
  have w := vi_ (n := s) (N := 7) hs (by omega)
  have wr := vi_ (n := r) (N := 7) hr (by omega)
  exact ⟨w, nm_r (e' := nI r) (by rw [e, hx]) ⟨wr, wr, nm_r (e' := upd xh r (nI h)) (by rw [er, hh, nI_pred]) K⟩⟩
theorem x_raise0 {code nd : Int32} (K : post (xd, xg, xN, xL, xF, xV, xC, (nI 0), 1, cr, code, nd, ft, bt, pr, op, a, b, xp, fi, xl, nx, xo, fn, fe, vn, vo, vv, xst, xf, xr, xh, xc, fN, fX, fS, fT, fL, pv)) : wpX_raise post (xd, xg, xN, xL, xF, xV, xC, (nI 0), ph, cr, ec, en, ft, bt, pr, op, a, b, xp, fi, xl, nx, xo, fn, fe, vn, vo, vv, xst, xf, xr, xh, xc, fN, fX, fS, fT, fL, pv) code nd := br_t rfl K
theorem x_raise1 {s r h : Nat} {code nd : Int32} (h0 : 1 ≤ s) (hs : s < 7) (hr : r < 7) (hx : xr s = nI r) (hh : xh r = nI (h + 1)) (K : post (xd, xg, xN, xL, xF, xV, xC, (nI r), (-2), 0, ec, en, code, bt, pr, op, a, b, xp, fi, xl, nx, xo, fn, fe, vn, vo, vv, (upd xst s 2), xf, xr, (upd xh r (nI h)), xc, fN, fX, fS, fT, fL, pv)) : wpX_raise post (xd, xg, xN, xL, xF, xV, xC, (nI s), ph, cr, ec, en, ft, bt, pr, op, a, b, xp, fi, xl, nx, xo, fn, fe, vn, vo, vv, xst, xf, xr, xh, xc, fN, fX, fS, fT, fL, pv) code nd := by
  have e := nc_ (n := s) (by omega)
  have w := vi_ (n := s) (N := 7) hs (by omega)
  exact br_f (nI_ne0 (by omega) (by omega)) ⟨w, nm_r (e' := upd xst s 2) (by rw [e]) (x_hb hs hr hx hh K)⟩
theorem x_top {s h : Nat} {q : Int32 → Prop} (hs : s < 7) (hh : xh s = nI (h + 1)) (K : q (nI (s * 128 + h))) : wpX_topFrame q (xd, xg, xN, xL, xF, xV, xC, (nI s), ph, cr, ec, en, ft, bt, pr, op, a, b, xp, fi, xl, nx, xo, fn, fe, vn, vo, vv, xst, xf, xr, xh, xc, fN, fX, fS, fT, fL, pv) := by
  have e := nc_ (n := s) (by omega)
  have w := vi_ (n := s) (N := 7) hs (by omega)
  refine ⟨w, ?_⟩
  rw [e, hh, ix_x]
  exact K
theorem x_push {s h m : Nat} {sc z : Int32} (hs : s < 7) (hh : xh s = nI h) (hb : h < 128) (hm : m < 96) (hz1 : op m = 7 → z = -1) (hz2 : ¬ op m = 7 → z = fi m)
    (K : post (xd, xg, xN, xL, xF, xV, xC, (nI s), ph, cr, ec, en, ft, bt, pr, op, a, b, xp, fi, xl, nx, xo, fn, fe, vn, vo, vv, xst, xf, xr, (upd xh s (nI (h + 1))), xc, (upd fN (s * 128 + h) (nI m)), (upd fX (s * 128 + h) z), (upd fS (s * 128 + h) sc), (upd fT (s * 128 + h) 0), (vp_updL fL ((s * 128 + h) * 4) 0), pv)) : wpX_push post (xd, xg, xN, xL, xF, xV, xC, (nI s), ph, cr, ec, en, ft, bt, pr, op, a, b, xp, fi, xl, nx, xo, fn, fe, vn, vo, vv, xst, xf, xr, xh, xc, fN, fX, fS, fT, fL, pv) (nI m) sc := by
  have e := nc_ (n := s) (by omega)
  have em := nc_ (n := m) (by omega)
  have ei := nc_ (n := s * 128 + h) (by omega)
  have e4 := nc_ (n := (s * 128 + h) * 4) (by omega)
  have w := vi_ (n := s) (N := 7) hs (by omega)
  have wm := vi_ (n := m) (N := 96) hm (by omega)
  have wi := vi_ (n := s * 128 + h) (N := 896) (by omega) (by omega)
  have w4 : vp_in (nI (s * 128 + h) * 4) 3584 := by rw [ix_4]; exact vi_ (by omega) (by omega)
  refine ⟨w, nm_r (e' := nI (s * 128 + h)) (by rw [e, hh, ix_x0]) ⟨w, w, nm_r (e' := upd xh s (nI (h + 1))) (by rw [e, hh, nI_1]) ⟨wi, nm_r (e' := upd fN (s * 128 + h) (nI m)) (by rw [ei]) ⟨wm, br_c (fun h7 => ?_) (fun h7 => ⟨wm, ?_⟩)⟩⟩⟩⟩
  · rw [em] at h7
    rw [hz1 h7] at K
    exact ⟨wi, nm_r (e' := upd fX (s * 128 + h) (-1)) (by rw [ei]) ⟨wi, nm_r (e' := upd fS (s * 128 + h) sc) (by rw [ei]) ⟨wi, nm_r (e' := upd fT (s * 128 + h) 0) (by rw [ei]) ⟨w4, nm_r (e' := vp_updL fL ((s * 128 + h) * 4) 0) (by rw [ix_4, e4]) K⟩⟩⟩⟩
  · rw [em] at h7
    rw [hz2 h7] at K
    exact ⟨wi, nm_r (e' := upd fX (s * 128 + h) (fi m)) (by rw [ei, em]) ⟨wi, nm_r (e' := upd fS (s * 128 + h) sc) (by rw [ei]) ⟨wi, nm_r (e' := upd fT (s * 128 + h) 0) (by rw [ei]) ⟨w4, nm_r (e' := vp_updL fL ((s * 128 + h) * 4) 0) (by rw [ix_4, e4]) K⟩⟩⟩⟩
theorem x_beat1 {q g : Nat} {post : Int32 → SX → Prop} (h : q < g) (hg : g < 1000) (K : post 1 (xd, (nI g), xN, xL, xF, xV, xC, xs, ph, cr, ec, en, ft, (nI (q + 1)), pr, op, a, b, xp, fi, xl, nx, xo, fn, fe, vn, vo, vv, xst, xf, xr, xh, xc, fN, fX, fS, fT, fL, pv)) : wpX_beat post (xd, (nI g), xN, xL, xF, xV, xC, xs, ph, cr, ec, en, ft, (nI q), pr, op, a, b, xp, fi, xl, nx, xo, fn, fe, vn, vo, vv, xst, xf, xr, xh, xc, fN, fX, fS, fT, fL, pv) := br_t (nI_lt h (by omega)) (nm_r (nI_1 q) K)
theorem x_beat0 {g : Nat} {post : Int32 → SX → Prop} (hg : g < 1000) (K : post 0 (xd, (nI g), xN, xL, xF, xV, xC, xs, 2, cr, ec, en, ft, (nI g), pr, op, a, b, xp, fi, xl, nx, xo, fn, fe, vn, vo, vv, xst, xf, xr, xh, xc, fN, fX, fS, fT, fL, pv)) : wpX_beat post (xd, (nI g), xN, xL, xF, xV, xC, xs, ph, cr, ec, en, ft, (nI g), pr, op, a, b, xp, fi, xl, nx, xo, fn, fe, vn, vo, vv, xst, xf, xr, xh, xc, fN, fX, fS, fT, fL, pv) := br_f (nI_nlt (Nat.le_refl _) (by omega)) K
theorem x_var {V : Nat} {nm sc : Int32} {val : Int64} {post : Int32 → SX → Prop} (hV : V < 120) (K : post (nI (V + 1)) (xd, xg, xN, xL, xF, (nI (V + 1)), xC, xs, ph, cr, ec, en, ft, bt, pr, op, a, b, xp, fi, xl, nx, xo, fn, fe, (upd vn (V + 1) nm), (upd vo (V + 1) sc), (vp_updL vv (V + 1) val), xst, xf, xr, xh, xc, fN, fX, fS, fT, fL, pv)) : wpX_newVariable post (xd, xg, xN, xL, xF, (nI V), xC, xs, ph, cr, ec, en, ft, bt, pr, op, a, b, xp, fi, xl, nx, xo, fn, fe, vn, vo, vv, xst, xf, xr, xh, xc, fN, fX, fS, fT, fL, pv) nm val sc := by
  have e := nc_ (n := V + 1) (by omega)
  have w := vi_ (n := V + 1) (N := 121) (by omega) (by omega)
  exact nm_r (nI_1 V) ⟨w, nm_r (e' := upd vn (V + 1) nm) (by rw [e]) ⟨w, nm_r (e' := vp_updL vv (V + 1) val) (by rw [e]) ⟨w, nm_r (e' := upd vo (V + 1) sc) (by rw [e]) K⟩⟩⟩
theorem x_num {s h : Nat} {x : Int32} (hs : s < 7) (hh : xh s = nI (h + 1)) (K : post (xd, xg, xN, xL, xF, xV, xC, (nI s), (-2), (lN (cv_n x + 4294967296)), ec, en, ft, bt, pr, op, a, b, xp, fi, xl, nx, xo, fn, fe, vn, vo, vv, xst, xf, xr, (upd xh s (nI h)), xc, fN, fX, fS, fT, fL, pv)) : wpX_finishNumber post (xd, xg, xN, xL, xF, xV, xC, (nI s), ph, cr, ec, en, ft, bt, pr, op, a, b, xp, fi, xl, nx, xo, fn, fe, vn, vo, vv, xst, xf, xr, xh, xc, fN, fX, fS, fT, fL, pv) x := by
  unfold wpX_finishNumber wpX_valueOf
  dsimp only
  rw [vo_1]
  exact x_finish hs hh K
theorem x_kind {y : Nat} {q : Int32 → Prop} (hy : y < 12884901901) (K : q (nI (y / 4294967296))) : wpX_kindOf q (lN y) := by
  unfold wpX_kindOf; rw [vo_k hy]; exact K
end
section
variable {yd yg yN yi yo yV yF yC ys yft ybt res yer ypl ypr rn hs : Int32} {gv gt : Int64} {op a b pa fi nx yp wn wu gn ge : Nat → Int32} {wv : Nat → Int64} {yl ya ye : Nat → Int32} {yk : Nat → Int64} {yt yc yst yf yr : Nat → Int32} {ou : Nat → Int64}
variable {post : SY → Prop}
theorem y_finish {s w n o : Nat} {val : Int64} (h7 : s < 7) (ht : yt s = nI (w + 1)) (hw : w < 112) (hl : yl (112 * s + w) = nI n) (hn : n < 96) (ho : op n = nI o) (ho2 : o ≤ 21) (h10 : o ≠ 10) (K : post (yd, yg, yN, yi, yo, yV, yF, yC, (nI s), yft, ybt, res, yer, ypl, ypr, rn, 1, gv, val, op, a, b, pa, fi, nx, yp, wn, wu, gn, ge, wv, yl, ya, ye, yk, (upd yt s (nI w)), yc, yst, yf, yr, ou)) : wpY_finish post (yd, yg, yN, yi, yo, yV, yF, yC, (nI s), yft, ybt, res, yer, ypl, ypr, rn, hs, gv, gt, op, a, b, pa, fi, nx, yp, wn, wu, gn, ge, wv, yl, ya, ye, yk, yt, yc, yst, yf, yr, ou) val := by
  have e := nc_ (n := s) (by omega)
  have en := nc_ (n := n) (by omega)
  have ei := nc_ (n := 112 * s + w) (by omega)
  have v := vi_ (n := s) (N := 7) h7 (by omega)
  have vn := vi_ (n := n) (N := 96) hn (by omega)
  have v1 := vi_ (n := 112 * s + w) (N := 784) (by omega) (by omega)
  refine ⟨v, v, nm_r (e' := upd yt s (nI w)) (by rw [e, ht, nI_pred]) ⟨v, nm_r (e' := nI (112 * s + w)) (by rw [e, pk_us, ix_y0]) ⟨v1, ?_, br_f ?_ K⟩⟩⟩
  · rw [ei, hl]; exact vn
  · rw [ei, hl, en, ho]
    intro h
    have := (nI_eq (a := o) (b := 10) (by omega) (by omega)).mp h
    omega
theorem y_finishF {s w n : Nat} {val : Int64} (h7 : s < 7) (ht : yt s = nI (w + 1)) (hw : w < 112) (hl : yl (112 * s + w) = nI n) (hn : n < 96) (ho : op n = 10) (K : wpY_returned post (yd, yg, yN, yi, yo, yV, yF, yC, (nI s), yft, ybt, res, yer, ypl, ypr, rn, hs, gv, gt, op, a, b, pa, fi, nx, yp, wn, wu, gn, ge, wv, yl, ya, ye, yk, (upd yt s (nI w)), yc, yst, yf, yr, ou) val) : wpY_finish post (yd, yg, yN, yi, yo, yV, yF, yC, (nI s), yft, ybt, res, yer, ypl, ypr, rn, hs, gv, gt, op, a, b, pa, fi, nx, yp, wn, wu, gn, ge, wv, yl, ya, ye, yk, yt, yc, yst, yf, yr, ou) val := by
  have e := nc_ (n := s) (by omega)
  have en := nc_ (n := n) (by omega)
  have ei := nc_ (n := 112 * s + w) (by omega)
  have v := vi_ (n := s) (N := 7) h7 (by omega)
  have vn := vi_ (n := n) (N := 96) hn (by omega)
  have v1 := vi_ (n := 112 * s + w) (N := 784) (by omega) (by omega)
  refine ⟨v, v, nm_r (e' := upd yt s (nI w)) (by rw [e, ht, nI_pred]) ⟨v, nm_r (e' := nI (112 * s + w)) (by rw [e, pk_us, ix_y0]) ⟨v1, ?_, br_t ?_ K⟩⟩⟩
  · rw [ei, hl]; exact vn
  · rw [ei, hl, en, ho]
theorem y_leave {s r w : Nat} {how : Int32} {val : Int64} (h7 : s < 7) (hr : r < 7) (hx : yr s = nI r) (ht : yt r = nI (w + 1)) (K : post (yd, yg, yN, yi, yo, yV, yF, yC, (nI r), yft, ybt, res, yer, ypl, ypr, rn, 1, gv, val, op, a, b, pa, fi, nx, yp, wn, wu, gn, ge, wv, yl, ya, ye, yk, (upd yt r (nI w)), yc, (upd yst s how), yf, yr, ou)) : wpY_leave post (yd, yg, yN, yi, yo, yV, yF, yC, (nI s), yft, ybt, res, yer, ypl, ypr, rn, hs, gv, gt, op, a, b, pa, fi, nx, yp, wn, wu, gn, ge, wv, yl, ya, ye, yk, yt, yc, yst, yf, yr, ou) how val := by
  have e := nc_ (n := s) (by omega)
  have er := nc_ (n := r) (by omega)
  have v := vi_ (n := s) (N := 7) h7 (by omega)
  have vr := vi_ (n := r) (N := 7) hr (by omega)
  exact ⟨v, nm_r (e' := upd yst s how) (by rw [e]) ⟨v, nm_r (e' := nI r) (by rw [e, hx]) ⟨vr, vr, nm_r (e' := upd yt r (nI w)) (by rw [er, ht, nI_pred]) K⟩⟩⟩
theorem y_raise0 {code nd : Int32} (K : post (yd, yg, yN, yi, yo, yV, yF, yC, (nI 0), yft, ybt, 1, code, nd, ypr, 0, hs, 4294967296, gt, op, a, b, pa, fi, nx, yp, wn, wu, gn, ge, wv, yl, ya, ye, yk, yt, yc, yst, yf, yr, ou)) : wpY_raise post (yd, yg, yN, yi, yo, yV, yF, yC, (nI 0), yft, ybt, res, yer, ypl, ypr, rn, hs, gv, gt, op, a, b, pa, fi, nx, yp, wn, wu, gn, ge, wv, yl, ya, ye, yk, yt, yc, yst, yf, yr, ou) code nd := br_t rfl K
theorem y_raise1 {s r w : Nat} {code nd : Int32} (h0 : 1 ≤ s) (h7 : s < 7) (hr : r < 7) (hx : yr s = nI r) (ht : yt r = nI (w + 1)) (K : post (yd, yg, yN, yi, yo, yV, yF, yC, (nI r), code, ybt, res, yer, ypl, ypr, rn, 1, gv, 4294967296, op, a, b, pa, fi, nx, yp, wn, wu, gn, ge, wv, yl, ya, ye, yk, (upd yt r (nI w)), yc, (upd yst s 2), yf, yr, ou)) : wpY_raise post (yd, yg, yN, yi, yo, yV, yF, yC, (nI s), yft, ybt, res, yer, ypl, ypr, rn, hs, gv, gt, op, a, b, pa, fi, nx, yp, wn, wu, gn, ge, wv, yl, ya, ye, yk, yt, yc, yst, yf, yr, ou) code nd :=
  br_f (nI_ne0 (by omega) (by omega)) (y_leave h7 hr hx ht K)
theorem y_ret0 {s c r w : Nat} {val : Int64} (h7 : s < 7) (hr : r < 7) (hx : yr s = nI r) (hrs : r ≠ s) (hc : yc s = nI (c + 1)) (h0 : yt s = nI 0) (ht : yt r = nI (w + 1)) (K : post (yd, yg, yN, yi, yo, yV, yF, yC, (nI r), yft, ybt, res, yer, ypl, ypr, rn, 1, gv, val, op, a, b, pa, fi, nx, yp, wn, wu, gn, ge, wv, yl, ya, ye, yk, (upd yt r (nI w)), (upd yc s (nI c)), (upd yst s 2), yf, yr, ou)) : wpY_returned post (yd, yg, yN, yi, yo, yV, yF, yC, (nI s), yft, ybt, res, yer, ypl, ypr, rn, hs, gv, gt, op, a, b, pa, fi, nx, yp, wn, wu, gn, ge, wv, yl, ya, ye, yk, yt, yc, yst, yf, yr, ou) val := by
  have e := nc_ (n := s) (by omega)
  have v := vi_ (n := s) (N := 7) h7 (by omega)
  exact ⟨v, v, nm_r (e' := upd yc s (nI c)) (by rw [e, hc, nI_pred]) ⟨v, br_t (by rw [e, h0]; rfl) (y_leave h7 hr hx ht K)⟩⟩
theorem y_ret1 {s c w : Nat} {val : Int64} (h7 : s < 7) (hc : yc s = nI (c + 1)) (ht : yt s = nI (w + 1)) (hw : w < 112) (K : post (yd, yg, yN, yi, yo, yV, yF, yC, (nI s), yft, ybt, res, yer, ypl, ypr, rn, 1, gv, val, op, a, b, pa, fi, nx, yp, wn, wu, gn, ge, wv, yl, ya, ye, yk, (upd yt s (nI w)), (upd yc s (nI c)), yst, yf, yr, ou)) : wpY_returned post (yd, yg, yN, yi, yo, yV, yF, yC, (nI s), yft, ybt, res, yer, ypl, ypr, rn, hs, gv, gt, op, a, b, pa, fi, nx, yp, wn, wu, gn, ge, wv, yl, ya, ye, yk, yt, yc, yst, yf, yr, ou) val := by
  have e := nc_ (n := s) (by omega)
  have v := vi_ (n := s) (N := 7) h7 (by omega)
  exact ⟨v, v, nm_r (e' := upd yc s (nI c)) (by rw [e, hc, nI_pred]) ⟨v, br_f (by rw [e, ht]; exact nI_ne0 (by omega) (by omega)) ⟨v, v, nm_r (e' := upd yt s (nI w)) (by rw [e, ht, nI_pred]) K⟩⟩⟩
theorem y_beat1 {q g : Nat} {post : Int32 → SY → Prop} (h : q < g) (hg : g < 1000) (K : post 1 (yd, (nI g), yN, yi, yo, yV, yF, yC, ys, yft, (nI (q + 1)), res, yer, ypl, ypr, rn, hs, gv, gt, op, a, b, pa, fi, nx, yp, wn, wu, gn, ge, wv, yl, ya, ye, yk, yt, yc, yst, yf, yr, ou)) : wpY_beat post (yd, (nI g), yN, yi, yo, yV, yF, yC, ys, yft, (nI q), res, yer, ypl, ypr, rn, hs, gv, gt, op, a, b, pa, fi, nx, yp, wn, wu, gn, ge, wv, yl, ya, ye, yk, yt, yc, yst, yf, yr, ou) := br_f (fun z => by have := (nI_eq (by omega) (by omega)).mp z; omega) (nm_r (nI_1 q) K)
theorem y_beat0 {g : Nat} {post : Int32 → SY → Prop} (K : post 0 (yd, (nI g), yN, yi, yo, yV, yF, yC, ys, yft, (nI g), 2, yer, ypl, ypr, 0, hs, 4294967296, gt, op, a, b, pa, fi, nx, yp, wn, wu, gn, ge, wv, yl, ya, ye, yk, yt, yc, yst, yf, yr, ou)) : wpY_beat post (yd, (nI g), yN, yi, yo, yV, yF, yC, ys, yft, (nI g), res, yer, ypl, ypr, rn, hs, gv, gt, op, a, b, pa, fi, nx, yp, wn, wu, gn, ge, wv, yl, ya, ye, yk, yt, yc, yst, yf, yr, ou) := br_t rfl K
theorem y_push {s w m : Nat} {sc : Int32} (h7 : s < 7) (ht : yt s = nI w) (hw : w < 112) (K : post (yd, yg, yN, yi, yo, yV, yF, yC, (nI s), yft, ybt, res, yer, ypl, ypr, rn, hs, gv, gt, op, a, b, pa, fi, nx, yp, wn, wu, gn, ge, wv, (upd yl (112 * s + w) (nI m)), (upd ya (112 * s + w) 0), (upd ye (112 * s + w) sc), yk, (upd yt s (nI (w + 1))), yc, yst, yf, yr, ou)) : wpY_push post (yd, yg, yN, yi, yo, yV, yF, yC, (nI s), yft, ybt, res, yer, ypl, ypr, rn, hs, gv, gt, op, a, b, pa, fi, nx, yp, wn, wu, gn, ge, wv, yl, ya, ye, yk, yt, yc, yst, yf, yr, ou) (nI m) sc := by
  have e := nc_ (n := s) (by omega)
  have ei := nc_ (n := 112 * s + w) (by omega)
  have v := vi_ (n := s) (N := 7) h7 (by omega)
  have v1 := vi_ (n := 112 * s + w) (N := 784) (by omega) (by omega)
  exact ⟨v, nm_r (e' := nI (112 * s + w)) (by rw [e, ht, ix_y0]) ⟨v1, nm_r (e' := upd yl (112 * s + w) (nI m)) (by rw [ei]) ⟨v1, nm_r (e' := upd ya (112 * s + w) 0) (by rw [ei]) ⟨v1, nm_r (e' := upd ye (112 * s + w) sc) (by rw [ei]) ⟨v, v, nm_r (e' := upd yt s (nI (w + 1))) (by rw [e, ht, nI_1]) K⟩⟩⟩⟩⟩
theorem y_var {V : Nat} {nm sc : Int32} {val : Int64} {post : Int32 → SY → Prop} (hV : V < 120) (K : post (nI V) (yd, yg, yN, yi, yo, (nI (V + 1)), yF, yC, ys, yft, ybt, res, yer, ypl, ypr, rn, hs, gv, gt, op, a, b, pa, fi, nx, yp, (upd wn V nm), (upd wu V sc), gn, ge, (vp_updL wv V val), yl, ya, ye, yk, yt, yc, yst, yf, yr, ou)) : wpY_variable post (yd, yg, yN, yi, yo, (nI V), yF, yC, ys, yft, ybt, res, yer, ypl, ypr, rn, hs, gv, gt, op, a, b, pa, fi, nx, yp, wn, wu, gn, ge, wv, yl, ya, ye, yk, yt, yc, yst, yf, yr, ou) nm val sc := by
  have e := nc_ (n := V) (by omega)
  have v := vi_ (n := V) (N := 120) hV (by omega)
  refine ⟨v, nm_r (e' := upd wn V nm) (by rw [e]) ⟨v, nm_r (e' := vp_updL wv V val) (by rw [e]) ⟨v, nm_r (e' := upd wu V sc) (by rw [e]) (nm_r (nI_1 V) ?_)⟩⟩⟩
  rw [nI_pred]
  exact K
end
