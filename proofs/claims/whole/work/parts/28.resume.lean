section
variable {xd xg xN xL xF xV xC xs ph : Int32} {cr : Int64} {ec en ft bt pr : Int32} {op a b xp fi xl nx xo fn fe vn vo : Nat → Int32} {vv : Nat → Int64} {xst xf xr xh xc fN fX fS fT : Nat → Int32} {fL pv : Nat → Int64}
variable {post : SX → Prop}
theorem x_rsA {i m : Nat} {x : Int64} {k : Int32} (hi : i < 896) (hn : fN i = nI m) (hk : k ≠ 3) (hf : ∀ q : Int32 → Prop, q k → wpX_kindOf q x) (K : wpX_raise post (xd, xg, xN, xL, xF, xV, xC, xs, ph, cr, ec, en, ft, bt, pr, op, a, b, xp, fi, xl, nx, xo, fn, fe, vn, vo, vv, xst, xf, xr, xh, xc, fN, fX, fS, fT, fL, pv) 2 (nI m)) : wpX_concludeResume post (xd, xg, xN, xL, xF, xV, xC, xs, ph, cr, ec, en, ft, bt, pr, op, a, b, xp, fi, xl, nx, xo, fn, fe, vn, vo, vv, xst, xf, xr, xh, xc, fN, fX, fS, fT, fL, pv) (nI i) x := by
  have ei := nc_ (n := i) (by omega)
  exact ⟨vi_ hi (by omega), nm_r (e' := nI m) (by rw [ei, hn]) (hf _ (br_f hk K))⟩
theorem x_rs5 {i m t w : Nat} {x : Int64} (hi : i < 896) (hn : fN i = nI m) (hx : x.toInt32 = nI t) (ht : t < 7) (hw : xst t = nI w) (hw0 : w ≠ 0) (hw9 : w < 100) (hf : ∀ q : Int32 → Prop, q 3 → wpX_kindOf q x) (K : wpX_raise post (xd, xg, xN, xL, xF, xV, xC, xs, ph, cr, ec, en, ft, bt, pr, op, a, b, xp, fi, xl, nx, xo, fn, fe, vn, vo, vv, xst, xf, xr, xh, xc, fN, fX, fS, fT, fL, pv) 5 (nI m)) : wpX_concludeResume post (xd, xg, xN, xL, xF, xV, xC, xs, ph, cr, ec, en, ft, bt, pr, op, a, b, xp, fi, xl, nx, xo, fn, fe, vn, vo, vv, xst, xf, xr, xh, xc, fN, fX, fS, fT, fL, pv) (nI i) x := by
  have ei := nc_ (n := i) (by omega)
  have et := nc_ (n := t) (by omega)
  refine ⟨vi_ hi (by omega), nm_r (e' := nI m) (by rw [ei, hn]) (hf _ (br_t rfl ?_))⟩
  rw [hx, et, hw]
  exact ⟨vi_ ht (by omega), br_f (nI_ne0 (by omega) (by omega)) K⟩
theorem x_rs70 {i m t f : Nat} {x : Int64} {z : Int32} (hi : i < 896) (hn : fN i = nI m) (hx : x.toInt32 = nI t) (ht : t < 7) (hw : xst t = 0) (hf0 : xf t = nI f) (hz : (xh t = 0 ∧ z = 1) ∨ (¬ xh t = 0 ∧ z = 0)) (hf : ∀ q : Int32 → Prop, q 3 → wpX_kindOf q x) (K : wX_concludeResume_70 post (nI i) (nI m) (nI t) (nI f) z xd xg xN xL xF xV xC xs ph cr ec en ft bt pr op a b xp fi xl nx xo fn fe vn vo vv xst xf xr xh xc fN fX fS fT fL pv) : wpX_concludeResume post (xd, xg, xN, xL, xF, xV, xC, xs, ph, cr, ec, en, ft, bt, pr, op, a, b, xp, fi, xl, nx, xo, fn, fe, vn, vo, vv, xst, xf, xr, xh, xc, fN, fX, fS, fT, fL, pv) (nI i) x := by
  have ei := nc_ (n := i) (by omega)
  have et := nc_ (n := t) (by omega)
  have w := vi_ (n := t) (N := 7) ht (by omega)
  refine ⟨vi_ hi (by omega), nm_r (e' := nI m) (by rw [ei, hn]) (hf _ (br_t rfl ?_))⟩
  rw [hx, et, hw]
  refine ⟨w, br_t rfl ⟨w, nm_r (e' := nI f) (by rw [hf0]) ⟨w, ?_⟩⟩⟩
  rcases hz with ⟨h1, h2⟩ | ⟨h1, h2⟩
  · rw [h2] at K; exact br_t h1 K
  · rw [h2] at K; exact br_f h1 K
theorem x_rs7 {i m t f g p V : Nat} (hf : f < 40) (hg : fn f = nI g) (hg2 : g < 96) (hp : b g = nI p) (hp9 : p < 100) (hV9 : V < 1000) (hV : 120 < V + p) (K : wpX_raise post (xd, xg, xN, xL, xF, (nI V), xC, xs, ph, cr, ec, en, ft, bt, pr, op, a, b, xp, fi, xl, nx, xo, fn, fe, vn, vo, vv, xst, xf, xr, xh, xc, fN, fX, fS, fT, fL, pv) 7 (nI m)) : wX_concludeResume_70 post (nI i) (nI m) (nI t) (nI f) 1 xd xg xN xL xF (nI V) xC xs ph cr ec en ft bt pr op a b xp fi xl nx xo fn fe vn vo vv xst xf xr xh xc fN fX fS fT fL pv := by
  have ef := nc_ (n := f) (by omega)
  have eg := nc_ (n := g) (by omega)
  refine br_f (by decide) ?_
  rw [ef, hg, eg, hp]
  exact ⟨vi_ hf (by omega), vi_ hg2 (by omega), br_f (by rw [nI_add]; exact nI_ge (a := 120) hV (by omega)) K⟩
theorem x_rs1 {i m t f g p V : Nat} (hf : f < 40) (hg : fn f = nI g) (hg2 : g < 96) (hp : b g = nI p) (hp9 : p < 100) (hV : V + p ≤ 120) (K : wX_concludeResume_108 post (nI i) (nI t) (nI f) 1 xd xg xN xL xF (nI V) xC xs ph cr ec en ft bt pr op a b xp fi xl nx xo fn fe vn vo vv xst xf xr xh xc fN fX fS fT fL pv) : wX_concludeResume_70 post (nI i) (nI m) (nI t) (nI f) 1 xd xg xN xL xF (nI V) xC xs ph cr ec en ft bt pr op a b xp fi xl nx xo fn fe vn vo vv xst xf xr xh xc fN fX fS fT fL pv := by
  have ef := nc_ (n := f) (by omega)
  have eg := nc_ (n := g) (by omega)
  refine br_f (by decide) ?_
  rw [ef, hg, eg, hp]
  exact ⟨vi_ hf (by omega), vi_ hg2 (by omega), br_t (by rw [nI_add]; exact nI_le (b := 120) hV (by omega)) K⟩
theorem x_rs0 {i m t f : Nat} (K : wX_concludeResume_108 post (nI i) (nI t) (nI f) 0 xd xg xN xL xF xV xC xs ph cr ec en ft bt pr op a b xp fi xl nx xo fn fe vn vo vv xst xf xr xh xc fN fX fS fT fL pv) : wX_concludeResume_70 post (nI i) (nI m) (nI t) (nI f) 0 xd xg xN xL xF xV xC xs ph cr ec en ft bt pr op a b xp fi xl nx xo fn fe vn vo vv xst xf xr xh xc fN fX fS fT fL pv := br_t rfl K
theorem x_rsE {i t f z : Int32} {u : Nat} (hu : u < 1000) (K : post (xd, (nI u), xN, xL, xF, xV, xC, xs, 2, cr, ec, en, ft, (nI u), pr, op, a, b, xp, fi, xl, nx, xo, fn, fe, vn, vo, vv, xst, xf, xr, xh, xc, fN, fX, fS, fT, fL, pv)) : wX_concludeResume_108 post i t f z xd (nI u) xN xL xF xV xC xs ph cr ec en ft (nI u) pr op a b xp fi xl nx xo fn fe vn vo vv xst xf xr xh xc fN fX fS fT fL pv := by
  unfold wX_concludeResume_108
  refine x_beat0 hu ?_
  exact br_t rfl K
theorem x_rsF {i t j q u : Nat} {f : Int32} {s : Nat} (hi : i < 896) (ht : t < 7) (hu : u < 1000) (hq : q < u) (hh : xh t = nI (j + 1)) (K : post (xd, (nI u), xN, xL, xF, xV, xC, (nI t), (-2), (fL (i * 4 + 1)), ec, en, ft, (nI (q + 1)), pr, op, a, b, xp, fi, xl, nx, xo, fn, fe, vn, vo, vv, (upd xst t 1), xf, (upd xr t (nI s)), (upd xh t (nI j)), xc, fN, fX, fS, fT, fL, pv)) : wX_concludeResume_108 post (nI i) (nI t) f 0 xd (nI u) xN xL xF xV xC (nI s) ph cr ec en ft (nI q) pr op a b xp fi xl nx xo fn fe vn vo vv xst xf xr xh xc fN fX fS fT fL pv := by
  have et := nc_ (n := t) (by omega)
  have e5 := nc_ (n := i * 4 + 1) (by omega)
  have w := vi_ (n := t) (N := 7) ht (by omega)
  unfold wX_concludeResume_108
  refine x_beat1 hq hu ?_
  dsimp only
  refine br_f (by decide) ⟨w, nm_r (e' := upd xst t 1) (by rw [et]) ⟨w, nm_r (e' := upd xr t (nI s)) (by rw [et]) (br_t rfl ⟨?_, ?_⟩)⟩⟩
  · rw [ix_41]; exact vi_ (by omega) (by omega)
  · rw [ix_41, e5]; exact x_finish ht hh K
theorem x_rsG {i t q u : Nat} {f : Nat} {s : Nat} (ht : t < 7) (hu : u < 1000) (hq : q < u) (K : wpX_enter post (xd, (nI u), xN, xL, xF, xV, xC, (nI t), ph, cr, ec, en, ft, (nI (q + 1)), pr, op, a, b, xp, fi, xl, nx, xo, fn, fe, vn, vo, vv, (upd xst t 1), xf, (upd xr t (nI s)), xh, xc, fN, fX, fS, fT, fL, pv) (nI f) (nI i)) : wX_concludeResume_108 post (nI i) (nI t) (nI f) 1 xd (nI u) xN xL xF xV xC (nI s) ph cr ec en ft (nI q) pr op a b xp fi xl nx xo fn fe vn vo vv xst xf xr xh xc fN fX fS fT fL pv := by
  have et := nc_ (n := t) (by omega)
  have w := vi_ (n := t) (N := 7) ht (by omega)
  unfold wX_concludeResume_108
  refine x_beat1 hq hu ?_
  exact br_f (by decide) ⟨w, nm_r (e' := upd xst t 1) (by rw [et]) ⟨w, nm_r (e' := upd xr t (nI s)) (by rw [et]) (br_f (by decide) K)⟩⟩
theorem x_e18_0 {i g e : Nat} (hg : g < 96) (hp : b g = nI 0) (K : wX_enter_71 post (nI g) (nI e) xd xg xN xL xF xV xC xs ph cr ec en ft bt pr op a b xp fi xl nx xo fn fe vn vo vv xst xf xr xh xc fN fX fS fT fL pv) : wX_enter_18 post (nI i) (nI g) 1 (nI e) 0 xd xg xN xL xF xV xC xs ph cr ec en ft bt pr op a b xp fi xl nx xo fn fe vn vo vv xst xf xr xh xc fN fX fS fT fL pv := by
  have eg := nc_ (n := g) (by omega)
  refine ⟨vi_ hg (by omega), br_t ?_ K⟩
  rw [eg, hp]; decide
theorem x_e18_1 {i g e V : Nat} (hi : i < 896) (hg : g < 96) (hp : b g = nI 1) (hV : V < 120) (K : wX_enter_71 post (nI g) (nI (V + 1)) xd xg xN xL xF (nI (V + 1)) xC xs ph cr ec en ft bt pr op a b xp fi xl nx xo fn fe (upd vn (V + 1) (a g)) (upd vo (V + 1) (nI e)) (vp_updL vv (V + 1) (fL (i * 4 + 1))) xst xf xr xh xc fN fX fS fT fL pv) : wX_enter_18 post (nI i) (nI g) 2 (nI e) 0 xd xg xN xL xF (nI V) xC xs ph cr ec en ft bt pr op a b xp fi xl nx xo fn fe vn vo vv xst xf xr xh xc fN fX fS fT fL pv := by
  have eg := nc_ (n := g) (by omega)
  have e5 := nc_ (n := i * 4 + 1) (by omega)
  have wg := vi_ (n := g) (N := 96) hg (by omega)
  refine ⟨wg, br_f ?_ (br_f (by decide) ⟨wg, ?_, ?_⟩)⟩
  · rw [eg, hp]; decide
  · rw [ix_41, Int32.add_zero]; exact vi_ (by omega) (by omega)
  · rw [ix_41, Int32.add_zero (nI (i * 4 + 1)), e5, eg, Int32.add_zero (a g)]
    refine x_var hV ?_
    refine nm_r (e' := 1) (by decide) ⟨wg, br_t ?_ K⟩
    rw [eg, hp]; decide
end
section
variable {yd yg yN yi yo yV yF yC ys yft ybt res yer ypl ypr rn hs : Int32} {gv gt : Int64} {op a b pa fi nx yp wn wu gn ge : Nat → Int32} {wv : Nat → Int64} {yl ya ye : Nat → Int32} {yk : Nat → Int64} {yt yc yst yf yr : Nat → Int32} {ou : Nat → Int64}
variable {post : SY → Prop}
theorem y_rsA {n : Int32} {x v : Int64} (hx : ¬ 12884901888 ≤ x) (K : wpY_raise post (yd, yg, yN, yi, yo, yV, yF, yC, ys, yft, ybt, res, yer, ypl, ypr, rn, hs, gv, gt, op, a, b, pa, fi, nx, yp, wn, wu, gn, ge, wv, yl, ya, ye, yk, yt, yc, yst, yf, yr, ou) 2 n) : wpY_resume post (yd, yg, yN, yi, yo, yV, yF, yC, ys, yft, ybt, res, yer, ypl, ypr, rn, hs, gv, gt, op, a, b, pa, fi, nx, yp, wn, wu, gn, ge, wv, yl, ya, ye, yk, yt, yc, yst, yf, yr, ou) n x v := br_f hx K
theorem y_rsK {n : Int32} {x v : Int64} {t f g : Nat} {z : Int32} (hle : 12884901888 ≤ x) (hx : (x - 12884901888).toInt32 + 1 = nI t) (ht : t < 7) (hf : yf t = nI f) (hf4 : f < 40) (hg : gn f = nI g) (hz : (yt t = 0 ∧ z = 1) ∨ (¬ yt t = 0 ∧ z = 0)) (K : wY_resume_54 post n v (nI t) (nI g) z yd yg yN yi yo yV yF yC ys yft ybt res yer ypl ypr rn hs gv gt op a b pa fi nx yp wn wu gn ge wv yl ya ye yk yt yc yst yf yr ou) : wpY_resume post (yd, yg, yN, yi, yo, yV, yF, yC, ys, yft, ybt, res, yer, ypl, ypr, rn, hs, gv, gt, op, a, b, pa, fi, nx, yp, wn, wu, gn, ge, wv, yl, ya, ye, yk, yt, yc, yst, yf, yr, ou) n x v := by
  have et := nc_ (n := t) (by omega)
  have ef := nc_ (n := f) (by omega)
  have w := vi_ (n := t) (N := 7) ht (by omega)
  refine br_t hle (nm_r hx ⟨w, ?_⟩)
  rw [et, hf, ef, hg]
  refine ⟨vi_ hf4 (by omega), nm_r (e' := nI g) rfl ⟨w, ?_⟩⟩
  rcases hz with ⟨h1, h2⟩ | ⟨h1, h2⟩
  · rw [h2] at K; exact br_t h1 K
  · rw [h2] at K; exact br_f h1 K
theorem y_rs5 {n z g : Int32} {v : Int64} {t w : Nat} (ht : t < 7) (hw : yst t = nI w) (hw0 : w ≠ 0) (hw9 : w < 100) (K : wpY_raise post (yd, yg, yN, yi, yo, yV, yF, yC, ys, yft, ybt, res, yer, ypl, ypr, rn, hs, gv, gt, op, a, b, pa, fi, nx, yp, wn, wu, gn, ge, wv, yl, ya, ye, yk, yt, yc, yst, yf, yr, ou) 5 n) : wY_resume_54 post n v (nI t) g z yd yg yN yi yo yV yF yC ys yft ybt res yer ypl ypr rn hs gv gt op a b pa fi nx yp wn wu gn ge wv yl ya ye yk yt yc yst yf yr ou := by
  have et := nc_ (n := t) (by omega)
  refine ⟨vi_ ht (by omega), ?_⟩
  rw [et, hw]
  exact br_f (nI_ne0 (by omega) (by omega)) K
theorem y_rs7 {n : Int32} {v : Int64} {t g p V : Nat} (ht : t < 7) (hw : yst t = 0) (hg : g < 96) (hp : b g = nI p) (hp9 : p < 100) (hV9 : V < 1000) (hV : 120 < V + p) (K : wpY_raise post (yd, yg, yN, yi, yo, (nI V), yF, yC, ys, yft, ybt, res, yer, ypl, ypr, rn, hs, gv, gt, op, a, b, pa, fi, nx, yp, wn, wu, gn, ge, wv, yl, ya, ye, yk, yt, yc, yst, yf, yr, ou) 7 n) : wY_resume_54 post n v (nI t) (nI g) 1 yd yg yN yi yo (nI V) yF yC ys yft ybt res yer ypl ypr rn hs gv gt op a b pa fi nx yp wn wu gn ge wv yl ya ye yk yt yc yst yf yr ou := by
  have et := nc_ (n := t) (by omega)
  have eg := nc_ (n := g) (by omega)
  refine ⟨vi_ ht (by omega), ?_⟩
  rw [et, hw, eg, hp]
  exact br_t rfl (br_f (by decide) ⟨vi_ hg (by omega), br_f (by rw [nI_add]; exact nI_ge (a := 120) hV (by omega)) K⟩)
theorem y_rs1 {n : Int32} {v : Int64} {t g p V : Nat} (ht : t < 7) (hw : yst t = 0) (hg : g < 96) (hp : b g = nI p) (hp9 : p < 100) (hV : V + p ≤ 120) (K : wY_resume_107 post v (nI t) (nI g) 1 yd yg yN yi yo (nI V) yF yC ys yft ybt res yer ypl ypr rn hs gv gt op a b pa fi nx yp wn wu gn ge wv yl ya ye yk yt yc yst yf yr ou) : wY_resume_54 post n v (nI t) (nI g) 1 yd yg yN yi yo (nI V) yF yC ys yft ybt res yer ypl ypr rn hs gv gt op a b pa fi nx yp wn wu gn ge wv yl ya ye yk yt yc yst yf yr ou := by
  have et := nc_ (n := t) (by omega)
  have eg := nc_ (n := g) (by omega)
  refine ⟨vi_ ht (by omega), ?_⟩
  rw [et, hw, eg, hp]
  exact br_t rfl (br_f (by decide) ⟨vi_ hg (by omega), br_t (by rw [nI_add]; exact nI_le (b := 120) hV (by omega)) K⟩)
theorem y_rs0 {n : Int32} {v : Int64} {t g : Nat} (ht : t < 7) (hw : yst t = 0) (K : wY_resume_107 post v (nI t) (nI g) 0 yd yg yN yi yo yV yF yC ys yft ybt res yer ypl ypr rn hs gv gt op a b pa fi nx yp wn wu gn ge wv yl ya ye yk yt yc yst yf yr ou) : wY_resume_54 post n v (nI t) (nI g) 0 yd yg yN yi yo yV yF yC ys yft ybt res yer ypl ypr rn hs gv gt op a b pa fi nx yp wn wu gn ge wv yl ya ye yk yt yc yst yf yr ou := by
  have et := nc_ (n := t) (by omega)
  refine ⟨vi_ ht (by omega), ?_⟩
  rw [et, hw]
  exact br_t rfl (br_t rfl K)
theorem y_rsE {t g z : Int32} {v : Int64} {u : Nat} (K : post (yd, (nI u), yN, yi, yo, yV, yF, yC, ys, yft, (nI u), 2, yer, ypl, ypr, 0, hs, 4294967296, gt, op, a, b, pa, fi, nx, yp, wn, wu, gn, ge, wv, yl, ya, ye, yk, yt, yc, yst, yf, yr, ou)) : wY_resume_107 post v t g z yd (nI u) yN yi yo yV yF yC ys yft (nI u) res yer ypl ypr rn hs gv gt op a b pa fi nx yp wn wu gn ge wv yl ya ye yk yt yc yst yf yr ou := by
  unfold wY_resume_107
  refine y_beat0 ?_
  exact br_t rfl K
theorem y_rsF {t q u s : Nat} {g : Int32} {v : Int64} (ht : t < 7) (hu : u < 1000) (hq : q < u) (K : wpY_finish post (yd, (nI u), yN, yi, yo, yV, yF, yC, (nI t), yft, (nI (q + 1)), res, yer, ypl, ypr, rn, hs, gv, gt, op, a, b, pa, fi, nx, yp, wn, wu, gn, ge, wv, yl, ya, ye, yk, yt, yc, (upd yst t 1), yf, (upd yr t (nI s)), ou) v) : wY_resume_107 post v (nI t) g 0 yd (nI u) yN yi yo yV yF yC (nI s) yft (nI q) res yer ypl ypr rn hs gv gt op a b pa fi nx yp wn wu gn ge wv yl ya ye yk yt yc yst yf yr ou := by
  have et := nc_ (n := t) (by omega)
  have w := vi_ (n := t) (N := 7) ht (by omega)
  unfold wY_resume_107
  refine y_beat1 hq hu ?_
  exact br_f (by decide) ⟨w, nm_r (e' := upd yst t 1) (by rw [et]) ⟨w, nm_r (e' := upd yr t (nI s)) (by rw [et]) (br_t rfl K)⟩⟩
theorem y_rsG0 {t q u s f g : Nat} {en : Int32} {v : Int64} (ht : t < 7) (hu : u < 1000) (hq : q < u) (hf : yf t = nI f) (hf4 : f < 40) (he : ge f = en) (hg : g < 96) (hp : b g = nI 0) (K : wpY_begin post (yd, (nI u), yN, yi, yo, yV, yF, yC, (nI t), yft, (nI (q + 1)), res, yer, ypl, ypr, rn, hs, gv, gt, op, a, b, pa, fi, nx, yp, wn, wu, gn, ge, wv, yl, ya, ye, yk, yt, yc, (upd yst t 1), yf, (upd yr t (nI s)), ou) (nI g) en) : wY_resume_107 post v (nI t) (nI g) 1 yd (nI u) yN yi yo yV yF yC (nI s) yft (nI q) res yer ypl ypr rn hs gv gt op a b pa fi nx yp wn wu gn ge wv yl ya ye yk yt yc yst yf yr ou := by
  have et := nc_ (n := t) (by omega)
  have ef := nc_ (n := f) (by omega)
  have eg := nc_ (n := g) (by omega)
  have w := vi_ (n := t) (N := 7) ht (by omega)
  unfold wY_resume_107
  refine y_beat1 hq hu ?_
  dsimp only
  refine br_f (by decide) ⟨w, nm_r (e' := upd yst t 1) (by rw [et]) ⟨w, nm_r (e' := upd yr t (nI s)) (by rw [et]) (br_f (by decide) ⟨w, ?_, nm_r (e' := en) (by rw [et, hf, ef, he]) ⟨vi_ hg (by omega), br_f ?_ K⟩⟩)⟩⟩
  · rw [et, hf]; exact vi_ hf4 (by omega)
  · rw [eg, hp]; decide
theorem y_rsG1 {t q u s f g V : Nat} {en : Int32} {v : Int64} (ht : t < 7) (hu : u < 1000) (hq : q < u) (hf : yf t = nI f) (hf4 : f < 40) (he : ge f = en) (hg : g < 96) (hp : b g = nI 1) (hV : V < 120) (K : wpY_begin post (yd, (nI u), yN, yi, yo, (nI (V + 1)), yF, yC, (nI t), yft, (nI (q + 1)), res, yer, ypl, ypr, rn, hs, gv, gt, op, a, b, pa, fi, nx, yp, (upd wn V (a g)), (upd wu V en), gn, ge, (vp_updL wv V v), yl, ya, ye, yk, yt, yc, (upd yst t 1), yf, (upd yr t (nI s)), ou) (nI g) (nI V)) : wY_resume_107 post v (nI t) (nI g) 1 yd (nI u) yN yi yo (nI V) yF yC (nI s) yft (nI q) res yer ypl ypr rn hs gv gt op a b pa fi nx yp wn wu gn ge wv yl ya ye yk yt yc yst yf yr ou := by
  have et := nc_ (n := t) (by omega)
  have ef := nc_ (n := f) (by omega)
  have eg := nc_ (n := g) (by omega)
  have w := vi_ (n := t) (N := 7) ht (by omega)
  have wg := vi_ (n := g) (N := 96) hg (by omega)
  unfold wY_resume_107
  refine y_beat1 hq hu ?_
  dsimp only
  refine br_f (by decide) ⟨w, nm_r (e' := upd yst t 1) (by rw [et]) ⟨w, nm_r (e' := upd yr t (nI s)) (by rw [et]) (br_f (by decide) ⟨w, ?_, nm_r (e' := en) (by rw [et, hf, ef, he]) ⟨wg, br_t ?_ ⟨wg, ?_⟩⟩⟩)⟩⟩
  · rw [et, hf]; exact vi_ hf4 (by omega)
  · rw [eg, hp]; decide
  · rw [eg]
    exact y_var hV K
end
section
variable {op a b fi nx pa : Nat → Int32} {N : Nat} {oc pc E lv : Nat → Nat} {kd : Nat → Nat → Nat} {SC : Nat → Int32 → Prop}
variable {F C V : Nat} {D : Nat → Int32 → Prop} {K T : Nat → Nat → Nat} {fN fX fS fT : Nat → Int32} {fL : Nat → Int64} {yl ya ye : Nat → Int32} {yk : Nat → Int64} {P H : Nat → Nat} {dep : Nat} {xh xc yt yc fn fe gn ge vn vo : Nat → Int32} {vv : Nat → Int64} {wn wu : Nat → Int32} {wv : Nat → Int64} {xst xf xr yst yf yr : Nat → Int32} {Q : Nat → Nat} {k s h : Nat}
variable {fu : Nat} {xN xL : Int32} {xp xl xo : Nat → Int32} {yN yi yo : Int32} {yp : Nat → Int32}
variable {ph ec en ft : Int32} {cr gv gt : Int64} {q w φ : Nat} {pv ou : Nat → Int64} {hs : Int32}
/-- the potential of a strand without frames begins at nought -/
theorem cc_T0 (ht : (ct_all op a b fi nx pa N oc pc E lv kd SC)) (h1 : (cc_C N oc pc E lv kd a b SC F C V D K T fN fX fS fT fL yl ya ye yk P H dep xh xc yt yc fn fe gn ge vn vo vv wn wu wv xst xf xr yst yf yr Q k s 0)) : (cc_C N oc pc E lv kd a b SC F C V D K (kt_ T s 0 0) fN fX fS fT fL yl ya ye yk P H dep xh xc yt yc fn fe gn ge vn vo vv wn wu wv xst xf xr yst yf yr Q k s 0) := by
  have h6 := cc_dep h1
  obtain ⟨g1, gK, gV, gF, gQ, gS, gC, gZ, gR⟩ := h1
  have S1 : ∀ r, r ≠ s → (cs_S N oc pc E lv kd a b SC F C V D K T fN fX fS fT fL yl ya ye yk P H dep xh xc yt yc r) → (cs_S N oc pc E lv kd a b SC F C V D K (kt_ T s 0 0) fN fX fS fT fL yl ya ye yk P H dep xh xc yt yc r) := fun r hr hS =>
    cs_S_go ht hS hr h6 (Nat.le_refl _) (Nat.le_refl _) (Nat.le_refl _) (fun _ _ _ h => h) rfl (funext fun j => kt_n (Or.inl hr)) ca_r ca_r ca_r ca_r ca_r ca_r ca_r ca_r ca_r rfl rfl rfl rfl rfl rfl
  refine ⟨g1, gK, gV, gF, gQ, fun i hi => ?_, fun c hc1 hc2 => ?_, gZ, fun j hj => by omega⟩
  · refine S1 (Q i) (fun e => ?_) (gS i hi)
    have := gQ.2.1 i k (by omega) (Nat.le_refl _) (e.trans g1.2.2.2.2.2.symm)
    omega
  · by_cases hcs : c = s
    · have hk : 1 ≤ k := by
        rcases Nat.eq_zero_or_pos k with hk | hk
        · have := gQ.1; rw [← hk, g1.2.2.2.2.2] at this; omega
        · exact hk
      have hx := (gQ.2.2.1 k hk (Nat.le_refl _)).2.2
      rw [g1.2.2.2.2.2, ← hcs] at hx
      obtain ⟨e1, e2, _⟩ := gC c hc1 hc2
      exact ⟨e1, e2, fun h0 => absurd (h0.symm.trans hx) (by decide)⟩
    · exact cs_C_go (gC c hc1 hc2) (Nat.le_refl _) (fun _ _ => rfl) (S1 c hcs) rfl rfl rfl rfl
end
