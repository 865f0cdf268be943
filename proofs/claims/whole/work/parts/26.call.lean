section
variable {xd xg xN xL xF xV xC xs ph : Int32} {cr : Int64} {ec en ft bt pr : Int32} {op a b xp fi xl nx xo fn fe vn vo : Nat → Int32} {vv : Nat → Int64} {xst xf xr xh xc fN fX fS fT : Nat → Int32} {fL pv : Nat → Int64}
variable {post : SX → Prop}
theorem x_caA {i m : Nat} {x : Int64} {k : Int32} (hi : i < 896) (hn : fN i = nI m) (hk : k ≠ 2) (hf : ∀ q : Int32 → Prop, q k → wpX_kindOf q x) (K : wpX_raise post (xd, xg, xN, xL, xF, xV, xC, xs, ph, cr, ec, en, ft, bt, pr, op, a, b, xp, fi, xl, nx, xo, fn, fe, vn, vo, vv, xst, xf, xr, xh, xc, fN, fX, fS, fT, fL, pv) 2 (nI m)) : wpX_concludeCall post (xd, xg, xN, xL, xF, xV, xC, xs, ph, cr, ec, en, ft, bt, pr, op, a, b, xp, fi, xl, nx, xo, fn, fe, vn, vo, vv, xst, xf, xr, xh, xc, fN, fX, fS, fT, fL, pv) (nI i) x := by
  have ei := nc_ (n := i) (by omega)
  exact ⟨vi_ hi (by omega), nm_r (e' := nI m) (by rw [ei, hn]) (hf _ (br_f hk K))⟩
/-- the callee is function f, of node g with p parameters; r arguments -/
theorem x_caK {i m f g p r : Nat} {x : Int64} (hi : i < 896) (hn : fN i = nI m) (hm : m < 96) (hx : x.toInt32 = nI f) (hf : f < 40) (hg : fn f = nI g) (hg2 : g < 96) (hp : b g = nI p) (hr : xp m = nI (r + 1)) (hk : ∀ q : Int32 → Prop, q 2 → wpX_kindOf q x)
    (K : (nI r = nI p → (vp_in xs 7 ∧ ((((xc xs.toNatClampNeg) < xd → ((((xV + nI p) ≤ 120 → (wpX_beat (fun r_13 u => match u with | (xd, xg, xN, xL, xF, xV, xC, xs, ph, cr, ec, en, ft, bt, pr, op, a, b, xp, fi, xl, nx, xo, fn, fe, vn, vo, vv, xst, xf, xr, xh, xc, fN, fX, fS, fT, fL, pv) => ((r_13 = 0 → (post (xd, xg, xN, xL, xF, xV, xC, xs, ph, cr, ec, en, ft, bt, pr, op, a, b, xp, fi, xl, nx, xo, fn, fe, vn, vo, vv, xst, xf, xr, xh, xc, fN, fX, fS, fT, fL, pv))) ∧ (¬ r_13 = 0 → (vp_in xs 7 ∧ (vp_in xs 7 ∧ ∀ y : Nat → Int32, y = upd xh xs.toNatClampNeg ((xh xs.toNatClampNeg) - 1) → wpX_enter post (xd, xg, xN, xL, xF, xV, xC, xs, ph, cr, ec, en, ft, bt, pr, op, a, b, xp, fi, xl, nx, xo, fn, fe, vn, vo, vv, xst, xf, xr, y, xc, fN, fX, fS, fT, fL, pv) (nI f) (nI i)))))) (xd, xg, xN, xL, xF, xV, xC, xs, ph, cr, ec, en, ft, bt, pr, op, a, b, xp, fi, xl, nx, xo, fn, fe, vn, vo, vv, xst, xf, xr, xh, xc, fN, fX, fS, fT, fL, pv))) ∧ (¬ (xV + nI p) ≤ 120 → (wpX_raise post (xd, xg, xN, xL, xF, xV, xC, xs, ph, cr, ec, en, ft, bt, pr, op, a, b, xp, fi, xl, nx, xo, fn, fe, vn, vo, vv, xst, xf, xr, xh, xc, fN, fX, fS, fT, fL, pv) 7 (nI m)))))) ∧ (¬ (xc xs.toNatClampNeg) < xd → (wpX_raise post (xd, xg, xN, xL, xF, xV, xC, xs, ph, cr, ec, en, ft, bt, pr, op, a, b, xp, fi, xl, nx, xo, fn, fe, vn, vo, vv, xst, xf, xr, xh, xc, fN, fX, fS, fT, fL, pv) 4 (nI m))))))) ∧ (¬ nI r = nI p → (wpX_raise post (xd, xg, xN, xL, xF, xV, xC, xs, ph, cr, ec, en, ft, bt, pr, op, a, b, xp, fi, xl, nx, xo, fn, fe, vn, vo, vv, xst, xf, xr, xh, xc, fN, fX, fS, fT, fL, pv) 3 (nI m)))) : wpX_concludeCall post (xd, xg, xN, xL, xF, xV, xC, xs, ph, cr, ec, en, ft, bt, pr, op, a, b, xp, fi, xl, nx, xo, fn, fe, vn, vo, vv, xst, xf, xr, xh, xc, fN, fX, fS, fT, fL, pv) (nI i) x := by
  have ei := nc_ (n := i) (by omega)
  have ef := nc_ (n := f) (by omega)
  have eg := nc_ (n := g) (by omega)
  have em := nc_ (n := m) (by omega)
  refine ⟨vi_ hi (by omega), nm_r (e' := nI m) (by rw [ei, hn]) (hk _ (br_t rfl ?_))⟩
  rw [hx, ef, hg, eg, hp]
  refine ⟨vi_ hf (by omega), vi_ hg2 (by omega), nm_r (e' := nI p) rfl ⟨vi_ hm (by omega), ?_⟩⟩
  rw [em, hr, nI_pred]
  exact K
theorem x_enter {i f g e : Nat} (hf : f < 40) (hg : fn f = nI g) (he : fe f = nI e) (K : ∃ n, wX_enter_18 post (nI i) (nI g) n (nI e) 0 xd xg xN xL xF xV xC xs ph cr ec en ft bt pr op a b xp fi xl nx xo fn fe vn vo vv xst xf xr xh xc fN fX fS fT fL pv) : wpX_enter post (xd, xg, xN, xL, xF, xV, xC, xs, ph, cr, ec, en, ft, bt, pr, op, a, b, xp, fi, xl, nx, xo, fn, fe, vn, vo, vv, xst, xf, xr, xh, xc, fN, fX, fS, fT, fL, pv) (nI f) (nI i) := by
  have ef := nc_ (n := f) (by omega)
  have w := vi_ (n := f) (N := 40) hf (by omega)
  exact ⟨w, nm_r (e' := nI g) (by rw [ef, hg]) ⟨w, nm_r (e' := nI e) (by rw [ef, he]) K⟩⟩
theorem x_e71 {s h m c : Nat} {sc : Int32} (hs : s < 7) (hh : xh s = nI h) (hb : h < 128) (hm : m < 96) (ho : op m = 10) (hc : xc s = nI c)
    (K : post (xd, xg, xN, xL, xF, xV, xC, (nI s), ph, cr, ec, en, ft, bt, pr, op, a, b, xp, fi, xl, nx, xo, fn, fe, vn, vo, vv, xst, xf, xr, (upd xh s (nI (h + 1))), (upd xc s (nI (c + 1))), (upd fN (s * 128 + h) (nI m)), (upd fX (s * 128 + h) (fi m)), (upd fS (s * 128 + h) sc), (upd fT (s * 128 + h) 0), (vp_updL fL ((s * 128 + h) * 4) 0), pv)) : wX_enter_71 post (nI m) sc xd xg xN xL xF xV xC (nI s) ph cr ec en ft bt pr op a b xp fi xl nx xo fn fe vn vo vv xst xf xr xh xc fN fX fS fT fL pv := by
  have e := nc_ (n := s) (by omega)
  have w := vi_ (n := s) (N := 7) hs (by omega)
  exact ⟨w, w, nm_r (e' := upd xc s (nI (c + 1))) (by rw [e, hc, nI_1]) (x_push hs hh hb hm (fun h => absurd (h.symm.trans ho) (by decide)) (fun _ => rfl) K)⟩
end
section
variable {yd yg yN yi yo yV yF yC ys yft ybt res yer ypl ypr rn hs : Int32} {gv gt : Int64} {op a b pa fi nx yp wn wu gn ge : Nat → Int32} {wv : Nat → Int64} {yl ya ye : Nat → Int32} {yk : Nat → Int64} {yt yc yst yf yr : Nat → Int32} {ou : Nat → Int64}
variable {post : SY → Prop}
theorem y_call {s w n r : Nat} {v z : Int64} (h7 : s < 7) (hw : w < 112) (hn : n < 96) (hp : yp n = nI (r + 1)) (hr : r < 100) (hz1 : r = 0 → z = v) (hz2 : r ≠ 0 → z = yk (3 * (112 * s + w))) (K : wY_call_27 post (nI (112 * s + w)) (nI n) v (nI r) z yd yg yN yi yo yV yF yC (nI s) yft ybt res yer ypl ypr rn hs gv gt op a b pa fi nx yp wn wu gn ge wv yl ya ye yk yt yc yst yf yr ou) : wpY_call post (yd, yg, yN, yi, yo, yV, yF, yC, (nI s), yft, ybt, res, yer, ypl, ypr, rn, hs, gv, gt, op, a, b, pa, fi, nx, yp, wn, wu, gn, ge, wv, yl, ya, ye, yk, yt, yc, yst, yf, yr, ou) (nI (112 * s + w)) (nI n) v := by
  have e2 := nc_ (n := n) (by omega)
  have e3 := nc_ (n := 3 * (112 * s + w)) (by omega)
  have v3 : vp_in (3 * nI (112 * s + w)) 2352 := by rw [ix_3]; exact vi_ (by omega) (by omega)
  refine ⟨vi_ hn (by omega), nm_r (e' := nI r) (by rw [e2, hp, nI_pred]) ?_⟩
  by_cases h0 : r = 0
  · subst h0
    rw [hz1 rfl] at K
    exact br_t rfl K
  · rw [hz2 h0] at K
    refine br_f (nI_ne0 (by omega) (by omega)) ⟨v3, ?_⟩
    rw [ix_3, e3]
    exact K
theorem y_caA {p n : Int32} {r : Int32} {v z : Int64} (hf : ∀ q : Int32 → Prop, q 0 → wpY_function q (yd, yg, yN, yi, yo, yV, yF, yC, ys, yft, ybt, res, yer, ypl, ypr, rn, hs, gv, gt, op, a, b, pa, fi, nx, yp, wn, wu, gn, ge, wv, yl, ya, ye, yk, yt, yc, yst, yf, yr, ou) z) (K : wpY_raise post (yd, yg, yN, yi, yo, yV, yF, yC, ys, yft, ybt, res, yer, ypl, ypr, rn, hs, gv, gt, op, a, b, pa, fi, nx, yp, wn, wu, gn, ge, wv, yl, ya, ye, yk, yt, yc, yst, yf, yr, ou) 2 n) : wY_call_27 post p n v r z yd yg yN yi yo yV yF yC ys yft ybt res yer ypl ypr rn hs gv gt op a b pa fi nx yp wn wu gn ge wv yl ya ye yk yt yc yst yf yr ou := by
  unfold wY_call_27
  exact hf _ (br_t rfl K)
theorem y_caK {f g p : Nat} {pp n r : Int32} {v z : Int64} (hx : (z - 8589934592).toInt32 = nI f) (hf : f < 40) (hg : gn f = nI g) (hg2 : g < 96) (hp : b g = nI p) (hk : ∀ q : Int32 → Prop, q 1 → wpY_function q (yd, yg, yN, yi, yo, yV, yF, yC, ys, yft, ybt, res, yer, ypl, ypr, rn, hs, gv, gt, op, a, b, pa, fi, nx, yp, wn, wu, gn, ge, wv, yl, ya, ye, yk, yt, yc, yst, yf, yr, ou) z)
    (K : (nI p = r → (vp_in ys 7 ∧ ((((yc ys.toNatClampNeg) = yd → (wpY_raise post (yd, yg, yN, yi, yo, yV, yF, yC, ys, yft, ybt, res, yer, ypl, ypr, rn, hs, gv, gt, op, a, b, pa, fi, nx, yp, wn, wu, gn, ge, wv, yl, ya, ye, yk, yt, yc, yst, yf, yr, ou) 4 n)) ∧ (¬ (yc ys.toNatClampNeg) = yd → ((((yV + nI p) ≤ 120 → (wpY_beat (fun r_56 u => match u with | (yd, yg, yN, yi, yo, yV, yF, yC, ys, yft, ybt, res, yer, ypl, ypr, rn, hs, gv, gt, op, a, b, pa, fi, nx, yp, wn, wu, gn, ge, wv, yl, ya, ye, yk, yt, yc, yst, yf, yr, ou) => ((r_56 = 0 → (post (yd, yg, yN, yi, yo, yV, yF, yC, ys, yft, ybt, res, yer, ypl, ypr, rn, hs, gv, gt, op, a, b, pa, fi, nx, yp, wn, wu, gn, ge, wv, yl, ya, ye, yk, yt, yc, yst, yf, yr, ou))) ∧ (¬ r_56 = 0 → (vp_in (nI f) 40 ∧ ∀ x : Int32, x = ge f → ∃ n155 : Nat, wY_call_155 post pp v r (nI g) n155 x 0 yd yg yN yi yo yV yF yC ys yft ybt res yer ypl ypr rn hs gv gt op a b pa fi nx yp wn wu gn ge wv yl ya ye yk yt yc yst yf yr ou)))) (yd, yg, yN, yi, yo, yV, yF, yC, ys, yft, ybt, res, yer, ypl, ypr, rn, hs, gv, gt, op, a, b, pa, fi, nx, yp, wn, wu, gn, ge, wv, yl, ya, ye, yk, yt, yc, yst, yf, yr, ou))) ∧ (¬ (yV + nI p) ≤ 120 → (wpY_raise post (yd, yg, yN, yi, yo, yV, yF, yC, ys, yft, ybt, res, yer, ypl, ypr, rn, hs, gv, gt, op, a, b, pa, fi, nx, yp, wn, wu, gn, ge, wv, yl, ya, ye, yk, yt, yc, yst, yf, yr, ou) 7 n))))))))) ∧ (¬ nI p = r → (wpY_raise post (yd, yg, yN, yi, yo, yV, yF, yC, ys, yft, ybt, res, yer, ypl, ypr, rn, hs, gv, gt, op, a, b, pa, fi, nx, yp, wn, wu, gn, ge, wv, yl, ya, ye, yk, yt, yc, yst, yf, yr, ou) 3 n))) : wY_call_27 post pp n v r z yd yg yN yi yo yV yF yC ys yft ybt res yer ypl ypr rn hs gv gt op a b pa fi nx yp wn wu gn ge wv yl ya ye yk yt yc yst yf yr ou := by
  have ef := nc_ (n := f) (by omega)
  have eg := nc_ (n := g) (by omega)
  unfold wY_call_27
  refine hk _ (br_f (by decide) ?_)
  rw [hx, ef, hg]
  refine ⟨vi_ hf (by omega), nm_r (e' := nI g) rfl ⟨vi_ hg2 (by omega), nm_r (e' := nI p) (by rw [eg, hp]) ?_⟩⟩
  exact K
theorem y_begin1 {s w m c : Nat} {sc : Int32} (h7 : s < 7) (hm : m < 96) (hc : yc s = nI c) (hp : ∃ p, 0 < p ∧ p < 1000 ∧ yp m = nI p) (ht : yt s = nI w) (hw : w < 112) (K : post (yd, yg, yN, yi, yo, yV, yF, yC, (nI s), yft, ybt, res, yer, ypl, ypr, rn, hs, gv, gt, op, a, b, pa, fi, nx, yp, wn, wu, gn, ge, wv, (upd yl (112 * s + w) (nI m)), (upd ya (112 * s + w) 0), (upd ye (112 * s + w) sc), yk, (upd yt s (nI (w + 1))), (upd yc s (nI (c + 1))), yst, yf, yr, ou)) : wpY_begin post (yd, yg, yN, yi, yo, yV, yF, yC, (nI s), yft, ybt, res, yer, ypl, ypr, rn, hs, gv, gt, op, a, b, pa, fi, nx, yp, wn, wu, gn, ge, wv, yl, ya, ye, yk, yt, yc, yst, yf, yr, ou) (nI m) sc := by
  have e := nc_ (n := s) (by omega)
  have em := nc_ (n := m) (by omega)
  have v7 := vi_ (n := s) (N := 7) h7 (by omega)
  obtain ⟨p, p1, p2, p3⟩ := hp
  refine ⟨v7, v7, nm_r (e' := upd yc s (nI (c + 1))) (by rw [e, hc, nI_1]) ⟨vi_ hm (by omega), br_f ?_ (y_push h7 ht hw K)⟩⟩
  rw [em, p3]; exact nI_nle p1 (by omega)
theorem y_begin0 {s m c : Nat} {sc : Int32} (h7 : s < 7) (hm : m < 96) (hc : yc s = nI c) (hp : yp m = nI 0) (K : wpY_returned post (yd, yg, yN, yi, yo, yV, yF, yC, (nI s), yft, ybt, res, yer, ypl, ypr, rn, hs, gv, gt, op, a, b, pa, fi, nx, yp, wn, wu, gn, ge, wv, yl, ya, ye, yk, yt, (upd yc s (nI (c + 1))), yst, yf, yr, ou) 4294967296) : wpY_begin post (yd, yg, yN, yi, yo, yV, yF, yC, (nI s), yft, ybt, res, yer, ypl, ypr, rn, hs, gv, gt, op, a, b, pa, fi, nx, yp, wn, wu, gn, ge, wv, yl, ya, ye, yk, yt, yc, yst, yf, yr, ou) (nI m) sc := by
  have e := nc_ (n := s) (by omega)
  have em := nc_ (n := m) (by omega)
  have v7 := vi_ (n := s) (N := 7) h7 (by omega)
  refine ⟨v7, v7, nm_r (e' := upd yc s (nI (c + 1))) (by rw [e, hc, nI_1]) ⟨vi_ hm (by omega), br_t ?_ K⟩⟩
  rw [em, hp]; decide
end
section
variable {op a b fi nx pa : Nat → Int32} {N : Nat} {oc pc E lv : Nat → Nat} {kd : Nat → Nat → Nat} {SC : Nat → Int32 → Prop}
variable {F C V : Nat} {D : Nat → Int32 → Prop} {K T : Nat → Nat → Nat} {fN fX fS fT : Nat → Int32} {fL : Nat → Int64} {yl ya ye : Nat → Int32} {yk : Nat → Int64} {P H : Nat → Nat} {dep : Nat} {xh xc yt yc fn fe gn ge vn vo : Nat → Int32} {vv : Nat → Int64} {wn wu : Nat → Int32} {wv : Nat → Int64} {xst xf xr yst yf yr : Nat → Int32} {Q : Nat → Nat} {k s h : Nat}
variable {fu : Nat} {xN xL : Int32} {xp xl xo : Nat → Int32} {yN yi yo : Int32} {yp : Nat → Int32}
variable {ph ec en ft : Int32} {cr gv gt : Int64} {q w φ : Nat} {pv ou : Nat → Int64} {hs : Int32}
/-- the parameters become variables -/
theorem call_vars {m q0 I0 J0 : Nat} (ht : (ct_all op a b fi nx pa N oc pc E lv kd SC)) (hK : K s h ≤ dep) (hm : m < N) (hb : b m = nI q0) (hq3 : q0 ≤ 3) (hI : I0 < 896) (hJ : J0 < 784) (hval : ∀ t, t < q0 → cv_R F C (fL (I0 * 4 + 1 + t)) (if t + 1 = q0 then gt else yk (3 * J0 + t + 1))) :
    ∀ d t, t + d = q0 → ∀ (V : Nat) (D : Nat → Int32 → Prop) (vn vo : Nat → Int32) (vv : Nat → Int64) (wn wu : Nat → Int32) (wv : Nat → Int64) (e : Nat), (cc_C N oc pc E lv kd a b SC F C V D K T fN fX fS fT fL yl ya ye yk P H dep xh xc yt yc fn fe gn ge vn vo vv wn wu wv xst xf xr yst yf yr Q k s h) → V + d ≤ 120 → e ≤ V → (∀ c, SC m c → D e c) → (∀ r, r < t → D e (a m + nI r)) →
      ∃ (V' : Nat) (D' : Nat → Int32 → Prop) (vn' vo' : Nat → Int32) (vv' : Nat → Int64) (wn' wu' : Nat → Int32) (wv' : Nat → Int64) (e' : Nat), (cc_C N oc pc E lv kd a b SC F C V' D' K T fN fX fS fT fL yl ya ye yk P H dep xh xc yt yc fn fe gn ge vn' vo' vv' wn' wu' wv' xst xf xr yst yf yr Q k s h) ∧ e' ≤ V' ∧ (∀ c, SC m c → D' e' c) ∧ (∀ r, r < q0 → D' e' (a m + nI r))
        ∧ (∀ (post : SX → Prop) (f : Nat), wX_enter_71 post (nI m) (nI e') (nI dep) (nI fu) xN xL (nI F) (nI V') (nI C) (nI s) ph cr ec en ft (nI q) (nI w) op a b xp fi xl nx xo fn fe vn' vo' vv' xst xf xr xh xc fN fX fS fT fL pv → wX_enter_18 post (nI I0) (nI m) (f + d + 1) (nI e) (nI t) (nI dep) (nI fu) xN xL (nI F) (nI V) (nI C) (nI s) ph cr ec en ft (nI q) (nI w) op a b xp fi xl nx xo fn fe vn vo vv xst xf xr xh xc fN fX fS fT fL pv)
        ∧ (∀ (post : SY → Prop) (f : Nat), wpY_begin post ((nI dep), (nI fu), yN, yi, yo, (nI V'), (nI F), (nI C), (nI s), ft, (nI q), 0, 0, (-1), (nI w), 1, hs, gv, gt, op, a, b, pa, fi, nx, yp, wn', wu', gn, ge, wv', yl, ya, ye, yk, yt, yc, yst, yf, yr, ou) (nI m) (nI e' - 1) → wY_call_155 post (nI J0) gt (nI q0) (nI m) (f + d + 1) (nI e - 1) (nI t) (nI dep) (nI fu) yN yi yo (nI V) (nI F) (nI C) (nI s) ft (nI q) 0 0 (-1) (nI w) 1 hs gv gt op a b pa fi nx yp wn wu gn ge wv yl ya ye yk yt yc yst yf yr ou) := by
  have hN := ht.2.1
  have em := nc_ (n := m) (by omega)
  have wm := vi_ (n := m) (N := 96) (by omega) (by omega)
  intro d
  induction d with
  | zero =>
    intro t htq V D vn vo vv wn wu wv e h1 hV he hS hp
    obtain rfl : t = q0 := by omega
    refine ⟨V, D, vn, vo, vv, wn, wu, wv, e, h1, he, hS, hp, fun post f KK => ⟨wm, br_t ?_ KK⟩, fun post f KK => br_t (nI_le (Nat.le_refl _) (by omega)) KK⟩
    rw [em, hb]; exact nI_le (Nat.le_refl _) (by omega)
  | succ d ih =>
    intro t htq V D vn vo vv wn wu wv e h1 hV he hS hp
    have h6 := cc_dep h1
    have hh := cf_h ht (cc_FR h1) (by omega)
    have h2 := cc_var (m := a m + nI t) ht h1 (by omega) (by omega) (by omega) he (hval t (by omega)) ca_r ca_r ca_r ca_r
    obtain ⟨V', D', vn', vo', vv', wn', wu', wv', e', k1, k2, k3, k4, k5, k6⟩ := ih (t + 1) (by omega) (V + 1) _ _ _ _ _ _ _ (V + 1) h2 (by omega) (Nat.le_refl _) (fun c hc => cd_D_new.mpr (Or.inr (hS c hc))) (fun r hr => by
      by_cases hrt : r = t
      · rw [hrt]; exact cd_D_new.mpr (Or.inl rfl)
      · exact cd_D_new.mpr (Or.inr (hp r (by omega))))
    refine ⟨V', D', vn', vo', vv', wn', wu', wv', e', k1, k2, k3, k4, fun post f KK => ?_, fun post f KK => ?_⟩
    · have e5 := nc_ (n := I0 * 4 + 1 + t) (by omega)
      refine ⟨wm, br_f ?_ (br_f (nI_ge (b := 3) (by omega) (by omega)) ⟨wm, ?_, ?_⟩)⟩
      · rw [em, hb]; exact nI_ge (by omega) (by omega)
      · rw [ix_41, nI_add]; exact vi_ (by omega) (by omega)
      · rw [ix_41, nI_add, e5, em]
        refine x_var (by omega) ?_
        exact nm_r (nI_1 t) (k5 post f KK)
    · have e5 := nc_ (n := 3 * J0 + t + 1) (by omega)
      have A : ∀ z : Int64, z = (if t + 1 = q0 then gt else yk (3 * J0 + t + 1)) → wY_call_199 post (wY_call_155 post (nI J0) gt (nI q0) (nI m) (f + (d + 1))) (nI J0) gt (nI q0) (nI m) (nI e - 1) (nI t) z (a m + nI t) (nI dep) (nI fu) yN yi yo (nI V) (nI F) (nI C) (nI s) ft (nI q) 0 0 (-1) (nI w) 1 hs gv gt op a b pa fi nx yp wn wu gn ge wv yl ya ye yk yt yc yst yf yr ou := by
        intro z hz
        unfold wY_call_199
        rw [hz]
        refine y_var (by omega) ?_
        refine nm_r (nI_1 t) ?_
        have := k6 post f KK
        rw [nI_pred] at this
        exact this
      refine br_f (nI_ge (by omega) (by omega)) ⟨wm, br_c (fun hq => ?_) (fun hq => ⟨?_, ?_⟩)⟩
      · rw [nI_1, nI_eq (by omega) (by omega)] at hq
        rw [em]
        exact A gt (by rw [if_pos hq])
      · have hq2 : t + 1 ≠ q0 := fun z => hq (by rw [nI_1, z])
        rw [ix_3, nI_add, nI_1]; exact vi_ (by omega) (by omega)
      · rw [nI_1, nI_eq (by omega) (by omega)] at hq
        rw [ix_3, nI_add, nI_1, e5, em]
        exact A _ (by rw [if_neg hq])
/-- a function's frame, if it has parts -/
theorem enter_1 {m e q0 d φ' : Nat} (ht : (ct_all op a b fi nx pa N oc pc E lv kd SC)) (hyp : ∀ n, n < N → xp n = nI (pc n) ∧ yp n = nI (pc n)) (h1 : (cc_C N oc pc E lv kd a b SC F C V D K T fN fX fS fT fL yl ya ye yk P H dep xh xc yt yc fn fe gn ge vn vo vv wn wu wv xst xf xr yst yf yr Q k s h)) (hKd : K s h + 1 ≤ dep) (hz : cz_ s ≤ K s h + 1) (hm : m < N) (ho : oc m = 10) (hb : b m = nI q0) (hq3 : q0 ≤ 3) (he : e ≤ V) (hS : ∀ c, SC m c → D e c) (hpar : ∀ r, r < q0 → D e (a m + nI r)) (hlev : h + 1 + (K s h + 1) ≤ 16 * (K s h + 1) + lv m + cz_ s) (hxh : xh s = nI h) (hyt : yt s = nI (h + (K s h + 1) - cz_ s)) (hx : xc s = nI (K s h)) (hy : yc s = nI (K s h)) (hpm : 0 < pc m) (hφ : φ' + d ≤ φ) (hk' : (cr_K φ' fu q w F C (ch_ P s (T s h + 4 * (E m - kd m 0) + 3)) pv ou)) :
    ∃ u2 v2, (∀ post : SX → Prop, post u2 → wX_enter_71 post (nI m) (nI e) (nI dep) (nI fu) xN xL (nI F) (nI V) (nI C) (nI s) (-1) cr ec en ft (nI q) (nI w) op a b xp fi xl nx xo fn fe vn vo vv xst xf xr xh xc fN fX fS fT fL pv) ∧ (∀ post : SY → Prop, post v2 → wpY_begin post ((nI dep), (nI fu), yN, yi, yo, (nI V), (nI F), (nI C), (nI s), ft, (nI q), 0, 0, (-1), (nI w), 1, 0, gv, gt, op, a, b, pa, fi, nx, yp, wn, wu, gn, ge, wv, yl, ya, ye, yk, yt, yc, yst, yf, yr, ou) (nI m) (nI e - 1)) ∧ cr_T op a b fi nx pa N oc pc E lv kd SC dep fu xN xL xp xl xo yN yi yo yp φ d u2 v2 := by
  have h7 := (cc_s h1).2
  have h6 := cc_dep h1
  have hN := ht.2.1
  have hh := cf_h ht (cc_FR h1) (by omega)
  have hl := (ht.2.2.2.2 m hm).2.2.2.1
  have hl2 := hl.2 (by omega)
  have hzl := cz_le s
  have o10 : op m = 10 := ct_op ht hm ho
  have hpn := (ht.2.2.2.2 m hm).1.2.2.2
  have hf0 : fi m = nI (kd m 0) := (ht.2.2.2.2 m hm).2.2.2.2.1.2 hpm
  have h2 : (cc_C N oc pc E lv kd a b SC F C V D K T fN fX fS fT fL yl ya ye yk P H dep xh (upd xc s (nI (K s h + 1))) yt (upd yc s (nI (K s h + 1))) fn fe gn ge vn vo vv wn wu wv xst xf xr yst yf yr Q k s h) := cc_fr ht h1 (by omega) (by omega) (fun _ _ _ => rfl) (fun _ _ _ => rfl) ca_r ca_r ca_r ca_r ca_r ca_r ca_r ca_r ca_r ca_r ca_r (ca_u ca_r (by omega) (by omega)) ca_r (ca_u ca_r (by omega) (by omega))
  refine ⟨_, _, fun post KK => x_e71 h7 hxh (by omega) (by omega) o10 hx KK, fun post KK => y_begin1 h7 (by omega) hy ⟨pc m, hpm, by omega, (hyp m hm).2⟩ hyt (by omega) KK, ?_⟩
  have := cr_new (e := e) (k1 := K s h + 1) (q' := q) (d := d) (φ' := φ') (xN := xN) (xL := xL) (xp := xp) (xl := xl) (xo := xo) (yN := yN) (yi := yi) (yo := yo) (yp := yp) (ec := ec) (en := en) (ft := ft) (cr := cr) (gv := gv) (gt := gt) ht h2 (by omega) (by rw [if_pos ho]) hKd hz hm (by omega) hpm he (fun c hc => by
    rcases hc with hc | hc | hc
    · exact hS c hc
    · omega
    · obtain ⟨p, q1, p1, p2, p3, p4⟩ := (ht.2.2.2.2 m hm).2.1 ho
      have hqq : q1 = q0 := (nI_eq (by omega) (by omega)).mp (p2.symm.trans hb)
      obtain ⟨_, c1, c2⟩ := hc
      rw [p1, p2, nI_add] at c2
      rw [p1] at c1
      have c0 : ¬ c < 0 := fun hneg => by
        have z1 := Int32.lt_of_le_of_lt c1 hneg
        exact absurd z1 (nI_pos (by omega))
      obtain ⟨j, j1, j2⟩ := nI_of c0
      rw [j2, nI_leI (by omega) j1] at c1
      rw [j2, nI_ltI j1 (by omega)] at c2
      have := hpar (j - p) (by omega)
      rw [p1, nI_add, show p + (j - p) = j by omega] at this
      rw [j2]; exact this) hlev pk_us pk_us hφ hk'
  rw [hf0, show h + (K s h + 1) - cz_ s + 1 = h + 1 + (K s h + 1) - cz_ s by omega]
  exact this
end
