section
variable {xd xg xN xL xF xV xC xs ph : Int32} {cr : Int64} {ec en ft bt pr : Int32} {op a b xp fi xl nx xo fn fe vn vo : Nat → Int32} {vv : Nat → Int64} {xst xf xr xh xc fN fX fS fT : Nat → Int32} {fL pv : Nat → Int64}
variable {post : SX → Prop}
theorem x_ca3 {i m f g p r : Nat} {x : Int64} (hi : i < 896) (hn : fN i = nI m) (hm : m < 96) (hx : x.toInt32 = nI f) (hf : f < 40) (hg : fn f = nI g) (hg2 : g < 96) (hp : b g = nI p) (hr : xp m = nI (r + 1)) (hp9 : p < 100) (hr9 : r < 100) (hk : ∀ q : Int32 → Prop, q 2 → wpX_kindOf q x) (hne : r ≠ p) (K : wpX_raise post (xd, xg, xN, xL, xF, xV, xC, xs, ph, cr, ec, en, ft, bt, pr, op, a, b, xp, fi, xl, nx, xo, fn, fe, vn, vo, vv, xst, xf, xr, xh, xc, fN, fX, fS, fT, fL, pv) 3 (nI m)) : wpX_concludeCall post (xd, xg, xN, xL, xF, xV, xC, xs, ph, cr, ec, en, ft, bt, pr, op, a, b, xp, fi, xl, nx, xo, fn, fe, vn, vo, vv, xst, xf, xr, xh, xc, fN, fX, fS, fT, fL, pv) (nI i) x :=
  x_caK hi hn hm hx hf hg hg2 hp hr hk (br_f (fun z => hne ((nI_eq (by omega) (by omega)).mp z)) K)
theorem x_ca4 {i m f g p r : Nat} {x : Int64} (hi : i < 896) (hn : fN i = nI m) (hm : m < 96) (hx : x.toInt32 = nI f) (hf : f < 40) (hg : fn f = nI g) (hg2 : g < 96) (hp : b g = nI p) (hr : xp m = nI (r + 1)) (hp9 : p < 100) (hr9 : r < 100) (hk : ∀ q : Int32 → Prop, q 2 → wpX_kindOf q x) {s c dd : Nat} (he : r = p) (hs : s < 7) (hc : xc s = nI c) (hc9 : c < 1000) (hd9 : dd < 1000) (h4 : dd ≤ c) (K : wpX_raise post ((nI dd), xg, xN, xL, xF, xV, xC, (nI s), ph, cr, ec, en, ft, bt, pr, op, a, b, xp, fi, xl, nx, xo, fn, fe, vn, vo, vv, xst, xf, xr, xh, xc, fN, fX, fS, fT, fL, pv) 4 (nI m)) : wpX_concludeCall post ((nI dd), xg, xN, xL, xF, xV, xC, (nI s), ph, cr, ec, en, ft, bt, pr, op, a, b, xp, fi, xl, nx, xo, fn, fe, vn, vo, vv, xst, xf, xr, xh, xc, fN, fX, fS, fT, fL, pv) (nI i) x := by
  have e := nc_ (n := s) (by omega)
  refine x_caK hi hn hm hx hf hg hg2 hp hr hk (br_t (by rw [he]) ⟨vi_ hs (by omega), ?_⟩)
  rw [e, hc]
  exact br_f (nI_nlt h4 (by omega)) K
theorem x_ca7 {i m f g p r : Nat} {x : Int64} (hi : i < 896) (hn : fN i = nI m) (hm : m < 96) (hx : x.toInt32 = nI f) (hf : f < 40) (hg : fn f = nI g) (hg2 : g < 96) (hp : b g = nI p) (hr : xp m = nI (r + 1)) (hp9 : p < 100) (hr9 : r < 100) (hk : ∀ q : Int32 → Prop, q 2 → wpX_kindOf q x) {s c dd : Nat} (he : r = p) (hs : s < 7) (hc : xc s = nI c) (hc9 : c < 1000) (hd9 : dd < 1000) {V : Nat} (h4 : c < dd) (hV9 : V < 1000) (h7 : 120 < V + p) (K : wpX_raise post ((nI dd), xg, xN, xL, xF, (nI V), xC, (nI s), ph, cr, ec, en, ft, bt, pr, op, a, b, xp, fi, xl, nx, xo, fn, fe, vn, vo, vv, xst, xf, xr, xh, xc, fN, fX, fS, fT, fL, pv) 7 (nI m)) : wpX_concludeCall post ((nI dd), xg, xN, xL, xF, (nI V), xC, (nI s), ph, cr, ec, en, ft, bt, pr, op, a, b, xp, fi, xl, nx, xo, fn, fe, vn, vo, vv, xst, xf, xr, xh, xc, fN, fX, fS, fT, fL, pv) (nI i) x := by
  have e := nc_ (n := s) (by omega)
  refine x_caK hi hn hm hx hf hg hg2 hp hr hk (br_t (by rw [he]) ⟨vi_ hs (by omega), ?_⟩)
  rw [e, hc]
  exact br_t (nI_lt h4 (by omega)) (br_f (by rw [nI_add]; exact nI_ge (a := 120) h7 (by omega)) K)
theorem x_caE {i m f g p r : Nat} {x : Int64} (hi : i < 896) (hn : fN i = nI m) (hm : m < 96) (hx : x.toInt32 = nI f) (hf : f < 40) (hg : fn f = nI g) (hg2 : g < 96) (hp : b g = nI p) (hr : xp m = nI (r + 1)) (hp9 : p < 100) (hr9 : r < 100) (hk : ∀ q : Int32 → Prop, q 2 → wpX_kindOf q x) {s c dd : Nat} (he : r = p) (hs : s < 7) (hc : xc s = nI c) (hc9 : c < 1000) (hd9 : dd < 1000) {V u : Nat} (h4 : c < dd) (hV9 : V < 1000) (h7 : V + p ≤ 120) (hu : u < 1000) (K : post ((nI dd), (nI u), xN, xL, xF, (nI V), xC, (nI s), 2, cr, ec, en, ft, (nI u), pr, op, a, b, xp, fi, xl, nx, xo, fn, fe, vn, vo, vv, xst, xf, xr, xh, xc, fN, fX, fS, fT, fL, pv)) : wpX_concludeCall post ((nI dd), (nI u), xN, xL, xF, (nI V), xC, (nI s), ph, cr, ec, en, ft, (nI u), pr, op, a, b, xp, fi, xl, nx, xo, fn, fe, vn, vo, vv, xst, xf, xr, xh, xc, fN, fX, fS, fT, fL, pv) (nI i) x := by
  have e := nc_ (n := s) (by omega)
  refine x_caK hi hn hm hx hf hg hg2 hp hr hk (br_t (by rw [he]) ⟨vi_ hs (by omega), ?_⟩)
  rw [e, hc]
  exact br_t (nI_lt h4 (by omega)) (br_t (by rw [nI_add]; exact nI_le (b := 120) h7 (by omega)) (x_beat0 hu (br_t rfl K)))
theorem x_caF {i m f g p r : Nat} {x : Int64} (hi : i < 896) (hn : fN i = nI m) (hm : m < 96) (hx : x.toInt32 = nI f) (hf : f < 40) (hg : fn f = nI g) (hg2 : g < 96) (hp : b g = nI p) (hr : xp m = nI (r + 1)) (hp9 : p < 100) (hr9 : r < 100) (hk : ∀ q : Int32 → Prop, q 2 → wpX_kindOf q x) {s c dd : Nat} (he : r = p) (hs : s < 7) (hc : xc s = nI c) (hc9 : c < 1000) (hd9 : dd < 1000) {V u t h : Nat} (h4 : c < dd) (hV9 : V < 1000) (h7 : V + p ≤ 120) (hu : u < 1000) (ht : t < u) (hh : xh s = nI (h + 1)) (K : wpX_enter post ((nI dd), (nI u), xN, xL, xF, (nI V), xC, (nI s), ph, cr, ec, en, ft, (nI (t + 1)), pr, op, a, b, xp, fi, xl, nx, xo, fn, fe, vn, vo, vv, xst, xf, xr, (upd xh s (nI h)), xc, fN, fX, fS, fT, fL, pv) (nI f) (nI i)) : wpX_concludeCall post ((nI dd), (nI u), xN, xL, xF, (nI V), xC, (nI s), ph, cr, ec, en, ft, (nI t), pr, op, a, b, xp, fi, xl, nx, xo, fn, fe, vn, vo, vv, xst, xf, xr, xh, xc, fN, fX, fS, fT, fL, pv) (nI i) x := by
  have e := nc_ (n := s) (by omega)
  refine x_caK hi hn hm hx hf hg hg2 hp hr hk (br_t (by rw [he]) ⟨vi_ hs (by omega), ?_⟩)
  rw [e, hc]
  exact br_t (nI_lt h4 (by omega)) (br_t (by rw [nI_add]; exact nI_le (b := 120) h7 (by omega)) (x_beat1 ht hu (br_f (by decide) ⟨vi_ hs (by omega), vi_ hs (by omega), nm_r (e' := upd xh s (nI h)) (by rw [e, hh, nI_pred]) K⟩)))
end
section
variable {yd yg yN yi yo yV yF yC ys yft ybt res yer ypl ypr rn hs : Int32} {gv gt : Int64} {op a b pa fi nx yp wn wu gn ge : Nat → Int32} {wv : Nat → Int64} {yl ya ye : Nat → Int32} {yk : Nat → Int64} {yt yc yst yf yr : Nat → Int32} {ou : Nat → Int64}
variable {post : SY → Prop}
theorem y_ca3 {f g p r : Nat} {pp n : Int32} {v z : Int64} (hx : (z - 8589934592).toInt32 = nI f) (hf : f < 40) (hg : gn f = nI g) (hg2 : g < 96) (hp : b g = nI p) (hp9 : p < 100) (hr9 : r < 100) (hk : ∀ q : Int32 → Prop, q 1 → wpY_function q (yd, yg, yN, yi, yo, yV, yF, yC, ys, yft, ybt, res, yer, ypl, ypr, rn, hs, gv, gt, op, a, b, pa, fi, nx, yp, wn, wu, gn, ge, wv, yl, ya, ye, yk, yt, yc, yst, yf, yr, ou) z) (hne : r ≠ p) (K : wpY_raise post (yd, yg, yN, yi, yo, yV, yF, yC, ys, yft, ybt, res, yer, ypl, ypr, rn, hs, gv, gt, op, a, b, pa, fi, nx, yp, wn, wu, gn, ge, wv, yl, ya, ye, yk, yt, yc, yst, yf, yr, ou) 3 n) : wY_call_27 post pp n v (nI r) z yd yg yN yi yo yV yF yC ys yft ybt res yer ypl ypr rn hs gv gt op a b pa fi nx yp wn wu gn ge wv yl ya ye yk yt yc yst yf yr ou :=
  y_caK hx hf hg hg2 hp hk (br_f (fun z => hne ((nI_eq (by omega) (by omega)).mp z).symm) K)
theorem y_ca4 {f g p r : Nat} {pp n : Int32} {v z : Int64} (hx : (z - 8589934592).toInt32 = nI f) (hf : f < 40) (hg : gn f = nI g) (hg2 : g < 96) (hp : b g = nI p) (hp9 : p < 100) (hr9 : r < 100) {s c dd : Nat} (h4 : c = dd) (hk : ∀ q : Int32 → Prop, q 1 → wpY_function q ((nI dd), yg, yN, yi, yo, yV, yF, yC, (nI s), yft, ybt, res, yer, ypl, ypr, rn, hs, gv, gt, op, a, b, pa, fi, nx, yp, wn, wu, gn, ge, wv, yl, ya, ye, yk, yt, yc, yst, yf, yr, ou) z) (he : r = p) (hs7 : s < 7) (hc : yc s = nI c) (hc9 : c < 1000) (hd9 : dd < 1000) (K : wpY_raise post ((nI dd), yg, yN, yi, yo, yV, yF, yC, (nI s), yft, ybt, res, yer, ypl, ypr, rn, hs, gv, gt, op, a, b, pa, fi, nx, yp, wn, wu, gn, ge, wv, yl, ya, ye, yk, yt, yc, yst, yf, yr, ou) 4 n) : wY_call_27 post pp n v (nI r) z (nI dd) yg yN yi yo yV yF yC (nI s) yft ybt res yer ypl ypr rn hs gv gt op a b pa fi nx yp wn wu gn ge wv yl ya ye yk yt yc yst yf yr ou := by
  have e := nc_ (n := s) (by omega)
  refine y_caK hx hf hg hg2 hp hk (br_t (by rw [he]) ⟨vi_ hs7 (by omega), ?_⟩)
  rw [e, hc]
  exact br_t (by rw [h4]) K
theorem y_ca7 {f g p r : Nat} {pp n : Int32} {v z : Int64} (hx : (z - 8589934592).toInt32 = nI f) (hf : f < 40) (hg : gn f = nI g) (hg2 : g < 96) (hp : b g = nI p) (hp9 : p < 100) (hr9 : r < 100) {s c dd : Nat} {V : Nat} (h4 : c < dd) (hV9 : V < 1000) (h7 : 120 < V + p) (hk : ∀ q : Int32 → Prop, q 1 → wpY_function q ((nI dd), yg, yN, yi, yo, (nI V), yF, yC, (nI s), yft, ybt, res, yer, ypl, ypr, rn, hs, gv, gt, op, a, b, pa, fi, nx, yp, wn, wu, gn, ge, wv, yl, ya, ye, yk, yt, yc, yst, yf, yr, ou) z) (he : r = p) (hs7 : s < 7) (hc : yc s = nI c) (hc9 : c < 1000) (hd9 : dd < 1000) (K : wpY_raise post ((nI dd), yg, yN, yi, yo, (nI V), yF, yC, (nI s), yft, ybt, res, yer, ypl, ypr, rn, hs, gv, gt, op, a, b, pa, fi, nx, yp, wn, wu, gn, ge, wv, yl, ya, ye, yk, yt, yc, yst, yf, yr, ou) 7 n) : wY_call_27 post pp n v (nI r) z (nI dd) yg yN yi yo (nI V) yF yC (nI s) yft ybt res yer ypl ypr rn hs gv gt op a b pa fi nx yp wn wu gn ge wv yl ya ye yk yt yc yst yf yr ou := by
  have e := nc_ (n := s) (by omega)
  refine y_caK hx hf hg hg2 hp hk (br_t (by rw [he]) ⟨vi_ hs7 (by omega), ?_⟩)
  rw [e, hc]
  exact br_f (fun z => by have := (nI_eq (by omega) (by omega)).mp z; omega) (br_f (by rw [nI_add]; exact nI_ge (a := 120) h7 (by omega)) K)
theorem y_caE {f g p r : Nat} {pp n : Int32} {v z : Int64} (hx : (z - 8589934592).toInt32 = nI f) (hf : f < 40) (hg : gn f = nI g) (hg2 : g < 96) (hp : b g = nI p) (hp9 : p < 100) (hr9 : r < 100) {s c dd : Nat} {V u : Nat} (h4 : c < dd) (hV9 : V < 1000) (h7 : V + p ≤ 120) (hk : ∀ q : Int32 → Prop, q 1 → wpY_function q ((nI dd), (nI u), yN, yi, yo, (nI V), yF, yC, (nI s), yft, (nI u), res, yer, ypl, ypr, rn, hs, gv, gt, op, a, b, pa, fi, nx, yp, wn, wu, gn, ge, wv, yl, ya, ye, yk, yt, yc, yst, yf, yr, ou) z) (he : r = p) (hs7 : s < 7) (hc : yc s = nI c) (hc9 : c < 1000) (hd9 : dd < 1000) (K : post ((nI dd), (nI u), yN, yi, yo, (nI V), yF, yC, (nI s), yft, (nI u), 2, yer, ypl, ypr, 0, hs, 4294967296, gt, op, a, b, pa, fi, nx, yp, wn, wu, gn, ge, wv, yl, ya, ye, yk, yt, yc, yst, yf, yr, ou)) : wY_call_27 post pp n v (nI r) z (nI dd) (nI u) yN yi yo (nI V) yF yC (nI s) yft (nI u) res yer ypl ypr rn hs gv gt op a b pa fi nx yp wn wu gn ge wv yl ya ye yk yt yc yst yf yr ou := by
  have e := nc_ (n := s) (by omega)
  refine y_caK hx hf hg hg2 hp hk (br_t (by rw [he]) ⟨vi_ hs7 (by omega), ?_⟩)
  rw [e, hc]
  exact br_f (fun z => by have := (nI_eq (by omega) (by omega)).mp z; omega) (br_t (by rw [nI_add]; exact nI_le (b := 120) h7 (by omega)) (y_beat0 (br_t rfl K)))
theorem y_caF {f g p r : Nat} {pp n : Int32} {v z : Int64} (hx : (z - 8589934592).toInt32 = nI f) (hf : f < 40) (hg : gn f = nI g) (hg2 : g < 96) (hp : b g = nI p) (hp9 : p < 100) (hr9 : r < 100) {s c dd : Nat} {V u t : Nat} {en : Int32} (h4 : c < dd) (hV9 : V < 1000) (h7 : V + p ≤ 120) (hu : u < 1000) (ht : t < u) (hge : ge f = en) (hk : ∀ q : Int32 → Prop, q 1 → wpY_function q ((nI dd), (nI u), yN, yi, yo, (nI V), yF, yC, (nI s), yft, (nI t), res, yer, ypl, ypr, rn, hs, gv, gt, op, a, b, pa, fi, nx, yp, wn, wu, gn, ge, wv, yl, ya, ye, yk, yt, yc, yst, yf, yr, ou) z) (he : r = p) (hs7 : s < 7) (hc : yc s = nI c) (hc9 : c < 1000) (hd9 : dd < 1000) (K : ∃ k, wY_call_155 post pp v (nI r) (nI g) k en 0 (nI dd) (nI u) yN yi yo (nI V) yF yC (nI s) yft (nI (t + 1)) res yer ypl ypr rn hs gv gt op a b pa fi nx yp wn wu gn ge wv yl ya ye yk yt yc yst yf yr ou) : wY_call_27 post pp n v (nI r) z (nI dd) (nI u) yN yi yo (nI V) yF yC (nI s) yft (nI t) res yer ypl ypr rn hs gv gt op a b pa fi nx yp wn wu gn ge wv yl ya ye yk yt yc yst yf yr ou := by
  have e := nc_ (n := s) (by omega)
  refine y_caK hx hf hg hg2 hp hk (br_t (by rw [he]) ⟨vi_ hs7 (by omega), ?_⟩)
  rw [e, hc]
  exact br_f (fun z => by have := (nI_eq (by omega) (by omega)).mp z; omega) (br_t (by rw [nI_add]; exact nI_le (b := 120) h7 (by omega)) (y_beat1 ht hu (br_f (by decide) ⟨vi_ hf (by omega), nm_r hge K⟩)))
end
section
variable {op a b fi nx pa : Nat → Int32} {N : Nat} {oc pc E lv : Nat → Nat} {kd : Nat → Nat → Nat} {SC : Nat → Int32 → Prop}
variable {F C V : Nat} {D : Nat → Int32 → Prop} {K T : Nat → Nat → Nat} {fN fX fS fT : Nat → Int32} {fL : Nat → Int64} {yl ya ye : Nat → Int32} {yk : Nat → Int64} {P H : Nat → Nat} {dep : Nat} {xh xc yt yc fn fe gn ge vn vo : Nat → Int32} {vv : Nat → Int64} {wn wu : Nat → Int32} {wv : Nat → Int64} {xst xf xr yst yf yr : Nat → Int32} {Q : Nat → Nat} {k s h : Nat}
variable {fu : Nat} {xN xL : Int32} {xp xl xo : Nat → Int32} {yN yi yo : Int32} {yp : Nat → Int32}
variable {ph ec en ft : Int32} {cr gv gt : Int64} {q w φ : Nat} {pv ou : Nat → Int64} {hs : Int32}
theorem sA_call {n i e : Nat} (ht : (ct_all op a b fi nx pa N oc pc E lv kd SC)) (hyp : ∀ n, n < N → xp n = nI (pc n) ∧ yp n = nI (pc n)) (h1 : (cc_C N oc pc E lv kd a b SC F C V D K T fN fX fS fT fL yl ya ye yk P H dep xh xc yt yc fn fe gn ge vn vo vv wn wu wv xst xf xr yst yf yr Q k s h)) (g1 : n < N) (g2 : oc n < 19) (g3 : i < pc n) (g4 : e ≤ V) (g5 : fN (s * 128 + h) = nI n) (g6 : fT (s * 128 + h) = nI (ct_tk (oc n) i)) (g7 : fS (s * 128 + h) = nI e) (g8 : yl (112 * s + (h + K s (h + 1) - cz_ s)) = nI n) (g9 : ya (112 * s + (h + K s (h + 1) - cz_ s)) = nI i) (g10 : ye (112 * s + (h + K s (h + 1) - cz_ s)) = nI e - 1) (g11 : ∀ c, ct_in oc a b SC n i c → D e c) (g12 : cf_S F C (oc n) i (fun q => fL ((s * 128 + h) * 4 + q)) (fun q => yk (3 * (112 * s + (h + K s (h + 1) - cz_ s)) + q))) (g13 : K s (h + 1) = K s h + (if oc n = 10 then 1 else 0)) (g14 : cz_ s ≤ K s (h + 1)) (g15 : h + 1 + K s (h + 1) ≤ 16 * K s (h + 1) + lv n + cz_ s) (hn : fX (s * 128 + h) = ct_nx pc kd n (i + 1)) (hT : T s h + 4 * (E n - E (kd n i)) + 3 ≤ T s (h + 1)) (b1 : K s (h + 1) ≤ dep) (b2 : T s (h + 1) + 2 ≤ P s) (b3 : xh s = nI (h + 1)) (b4 : yt s = nI (h + 1 + K s (h + 1) - cz_ s)) (b5 : xc s = nI (K s (h + 1))) (b6 : yc s = nI (K s (h + 1))) (hk : (cr_K φ fu q w F C P pv ou)) (hv : cv_R F C cr gt) (hd : oc n = 11) (hlt : i + 1 = pc n) : ∃ u2 v2 kx, xs_ (kx + 1) ((nI dep), (nI fu), xN, xL, (nI F), (nI V), (nI C), (nI s), (-2), cr, ec, en, ft, (nI q), (nI w), op, a, b, xp, fi, xl, nx, xo, fn, fe, vn, vo, vv, xst, xf, xr, xh, xc, fN, fX, fS, fT, fL, pv) u2 ∧ (∀ post : SY → Prop, post v2 → wpY_deliver post ((nI dep), (nI fu), yN, yi, yo, (nI V), (nI F), (nI C), (nI s), ft, (nI q), 0, 0, (-1), (nI w), 1, 0, gv, gt, op, a, b, pa, fi, nx, yp, wn, wu, gn, ge, wv, yl, ya, ye, yk, yt, yc, yst, yf, yr, ou) gt) ∧ cr_T op a b fi nx pa N oc pc E lv kd SC dep fu xN xL xp xl xo yN yi yo yp φ (kx + 1) u2 v2 := by
  have h7 := (cc_s h1).2
  have h6 := cc_dep h1
  have hKK : K s h ≤ K s (h + 1) := by omega
  have hh := cf_h ht (cc_FR h1) (by omega)
  have hN := ht.2.1
  have hl := (ht.2.2.2.2 n g1).2.2.2.1.2 (by omega)
  have hzl := cz_le s
  have hw : h + K s (h + 1) - cz_ s < 112 := by omega
  have o_ : op n = nI (oc n) := ct_op ht g1 rfl
  have b4' : yt s = nI (h + K s (h + 1) - cz_ s + 1) := by rw [b4]; exact congrArg nI (by omega)
  have hpn := (ht.2.2.2.2 n g1).1.2.2.2
  have yp_ := (hyp n g1).2
  have hEn := ct_E ht g1
  have hkd := (ht.2.2.2.2 n g1).2.2.2.2.2.1
  have h10 : oc n ≠ 10 := by omega
  have hK0 : K s (h + 1) = K s h := by rw [g13, if_neg h10]; rfl
  have b4p : yt s = nI (h + K s h - cz_ s + 1) := by rw [← hK0]; exact b4'
  have g8p : yl (112 * s + (h + K s h - cz_ s)) = nI n := by rw [← hK0]; exact g8
  have b1p : K s h ≤ dep := by omega
  have b5p : xc s = nI (K s h) := by rw [← hK0]; exact b5
  have b6p : yc s = nI (K s h) := by rw [← hK0]; exact b6
  have hwp : h + K s h - cz_ s < 112 := by omega
  have hsh : 1 ≤ s → 1 ≤ h := fun hs1 => by
    have z1 := cz_1 hs1
    rcases Nat.eq_zero_or_pos h with hz | hz
    · subst hz
      have := h1.2.1 s
      omega
    · exact hz
  have hD11 : oc n < 5 ∨ 10 < oc n ∨ oc n = 9 := Or.inr (Or.inl (by omega))
  have hmx : pc n ≤ 4 := by have := (ct_mn' ht g1).2; rw [hd] at this; exact this
  have o11 : op n = 11 := o_.trans (by rw [hd]; rfl)
  have hF4 := h1.1.1
  have hC6 := h1.1.2.1
  have hV2 := h1.1.2.2.1
  have hfu := hk.1.2.1
  have h2 := cc_tk (n := n) (i := i) (x := cr) ht h1 b1p (by omega)
  have hxp : xp n = nI (i + 1) := by rw [(hyp n g1).1, hlt]
  have hyp' : yp n = nI (i + 1) := by rw [yp_, hlt]
  obtain ⟨z, z1, z2, hcv⟩ : ∃ z : Int64, (i = 0 → z = gt) ∧ (i ≠ 0 → z = yk (3 * (112 * s + (h + K s (h + 1) - cz_ s)))) ∧ cv_R F C (vp_updL fL ((s * 128 + h) * 4 + i) cr ((s * 128 + h) * 4)) z := by
    by_cases h0 : i = 0
    · subst h0
      refine ⟨gt, fun _ => rfl, fun h => absurd rfl h, ?_⟩
      rw [show vp_updL fL ((s * 128 + h) * 4 + 0) cr ((s * 128 + h) * 4) = cr from pk_uLs]
      exact hv
    · refine ⟨yk (3 * (112 * s + (h + K s (h + 1) - cz_ s))), fun h => absurd h h0, fun _ => rfl, ?_⟩
      rw [pk_uLn (by omega)]
      exact g12.2 (by omega) 0 (by omega) (by omega)
  rcases xy_fun hF4 hC6 hcv with ⟨f, c1, c2, c3, c4, c5⟩ | ⟨⟨kk, c1, c2⟩, c3⟩
  · obtain ⟨g, e', f1, f2, f3, f4, f5, f6, f7, f8⟩ := h1.2.2.2.1 f c1
    obtain ⟨p0, q0, p1, p2, p3, p4⟩ := (ht.2.2.2.2 g f1).2.1 f2
    have xi : (vp_updL fL ((s * 128 + h) * 4 + i) cr ((s * 128 + h) * 4)).toInt32 = nI f := by rw [c2, vo_i2]
    have yi' : (z - 8589934592).toInt32 = nI f := by rw [c3, vo_y2]
    by_cases hq : i = q0
    · by_cases hdep : dep ≤ K s h
      · exact sA_raise ht hyp h1 g1 g2 g3 g4 g5 g6 g7 g8 g9 g10 g11 g12 g13 g14 g15 hn hT b1 b2 b3 b4 b5 b6 hk hv hD11 hlt 4 (fun post KK => x_c11 h7 (by omega) g5 (by omega) o11 (x_ca4 (by omega) g5 (by omega) xi (by omega) f4 (by omega) p2 hxp (by omega) (by omega) c4 hq h7 b5p (by omega) (by omega) hdep KK)) (fun post KK => y_a11 h7 hw (by omega) o11 (y_call h7 hw (by omega) hyp' (by omega) z1 z2 (y_ca4 yi' (by omega) f5 (by omega) p2 (by omega) (by omega) (by omega) (fun q hq => c5 q _ hq) hq h7 b6p (by omega) (by omega) KK)))
      · by_cases hV7 : V + q0 ≤ 120
        · rcases Nat.lt_or_ge q fu with hqf | hqf
          · have hval : ∀ t, t < q0 → cv_R F C (vp_updL fL ((s * 128 + h) * 4 + i) cr ((s * 128 + h) * 4 + 1 + t)) (if t + 1 = q0 then gt else yk (3 * (112 * s + (h + K s (h + 1) - cz_ s)) + t + 1)) := by
              intro t htq
              by_cases h3 : t + 1 = q0
              · rw [if_pos h3, show (s * 128 + h) * 4 + 1 + t = (s * 128 + h) * 4 + i by omega, pk_uLs]; exact hv
              · rw [if_neg h3, pk_uLn (by omega)]
                have := g12.2 (by omega) (t + 1) (by omega) (by omega)
                dsimp only at this
                rw [show (s * 128 + h) * 4 + (t + 1) = (s * 128 + h) * 4 + 1 + t by omega] at this
                exact this
            have h3 : (cc_C N oc pc E lv kd a b SC F C V D K T fN fX fS (upd fT (s * 128 + h) (nI (i + 1))) (vp_updL fL ((s * 128 + h) * 4 + i) cr) yl ya ye yk P H dep (upd xh s (nI h)) xc yt yc fn fe gn ge vn vo vv wn wu wv xst xf xr yst yf yr Q k s h) := cc_fr ht h2 (by omega) (by omega) (fun _ _ _ => rfl) (fun _ _ _ => rfl) ca_r ca_r ca_r ca_r ca_r ca_r ca_r ca_r ca_r ca_r (ca_u ca_r (by omega) (by omega)) ca_r ca_r ca_r
            obtain ⟨V', D', vn', vo', vv', wn', wu', wv', e2, k1, k2, k3, k4, k5, k6⟩ := call_vars (m := g) (q0 := q0) (I0 := (s * 128 + h)) (J0 := (112 * s + (h + K s (h + 1) - cz_ s))) (ph := -1) (hs := 0) (q := q + 1) (w := w) (fu := fu) (ec := ec) (en := en) (ft := ft) (cr := cr) (gv := gv) (gt := gt) (xN := xN) (xL := xL) (xp := xp) (xl := xl) (xo := xo) (yN := yN) (yi := yi) (yo := yo) (yp := yp) (pv := pv) (ou := ou) ht b1p f1 p2 p3 (by omega) (by omega) hval q0 0 (by omega) V D vn vo vv wn wu wv e' h3 hV7 f3 f8 (fun r hr => by omega)
            have xE : ∀ post : SX → Prop, wX_enter_71 post (nI g) (nI e2) (nI dep) (nI fu) xN xL (nI F) (nI V') (nI C) (nI s) (-1) cr ec en ft (nI (q + 1)) (nI w) op a b xp fi xl nx xo fn fe vn' vo' vv' xst xf xr (upd xh s (nI h)) xc fN fX fS (upd fT (s * 128 + h) (nI (i + 1))) (vp_updL fL ((s * 128 + h) * 4 + i) cr) pv → wpX_conclude post ((nI dep), (nI fu), xN, xL, (nI F), (nI V), (nI C), (nI s), (-1), cr, ec, en, ft, (nI q), (nI w), op, a, b, xp, fi, xl, nx, xo, fn, fe, vn, vo, vv, xst, xf, xr, xh, xc, fN, fX, fS, (upd fT (s * 128 + h) (nI (i + 1))), (vp_updL fL ((s * 128 + h) * 4 + i) cr), pv) (nI (s * 128 + h)) := fun post KK => x_c11 h7 (by omega) g5 (by omega) o11 (x_caF (by omega) g5 (by omega) xi (by omega) f4 (by omega) p2 hxp (by omega) (by omega) c4 hq h7 b5p (by omega) (by omega) (by omega) (by omega) hV7 (by omega) hqf b3 (x_enter (by omega) f4 f6 ⟨0 + q0 + 1, k5 post 0 KK⟩))
            have yE : ∀ post : SY → Prop, wpY_begin post ((nI dep), (nI fu), yN, yi, yo, (nI V'), (nI F), (nI C), (nI s), ft, (nI (q + 1)), 0, 0, (-1), (nI w), 1, 0, gv, gt, op, a, b, pa, fi, nx, yp, wn', wu', gn, ge, wv', yl, ya, ye, yk, yt, yc, yst, yf, yr, ou) (nI g) (nI e2 - 1) → wpY_apply post ((nI dep), (nI fu), yN, yi, yo, (nI V), (nI F), (nI C), (nI s), ft, (nI q), 0, 0, (-1), (nI w), 1, 0, gv, gt, op, a, b, pa, fi, nx, yp, wn, wu, gn, ge, wv, yl, ya, ye, yk, yt, yc, yst, yf, yr, ou) (nI (112 * s + (h + K s (h + 1) - cz_ s))) (nI n) gt := fun post KK => y_a11 h7 hw (by omega) o11 (y_call h7 hw (by omega) hyp' (by omega) z1 z2 (y_caF yi' (by omega) f5 (by omega) p2 (by omega) (by omega) (by omega) (by omega) hV7 (by omega) hqf f7 (fun q hq => c5 q _ hq) hq h7 b6p (by omega) (by omega) ⟨0 + q0 + 1, by rw [hq]; exact k6 post 0 KK⟩))
            have hEg := ct_E ht f1
            rcases Nat.eq_zero_or_pos (pc g) with hpg | hpg
            · have hfg : fi g = -1 := (ht.2.2.2.2 g f1).2.2.2.2.1.1 hpg
              have og : op g = 10 := ct_op ht f1 f2
              obtain ⟨φ', hφ, hk'⟩ := cr_beat (P' := ch_ P s (T s h + 2)) (d := 3) hk h7 hqf rfl (by omega)
              have h4 : (cc_C N oc pc E lv kd a b SC F C V' D' K T (upd fN (s * 128 + h) (nI g)) (upd fX (s * 128 + h) (fi g)) (upd fS (s * 128 + h) (nI e2)) (upd (upd fT (s * 128 + h) (nI (i + 1))) (s * 128 + h) 0) (vp_updL (vp_updL fL ((s * 128 + h) * 4 + i) cr) ((s * 128 + h) * 4) 0) yl ya ye yk (ch_ P s (T s h + 2)) H dep (upd (upd xh s (nI h)) s (nI (h + 1))) (upd (upd xc s (nI (K s h + 1))) s (nI (K s h))) yt (upd (upd yc s (nI (K s h + 1))) s (nI (K s h))) fn fe gn ge vn' vo' vv' wn' wu' wv' xst xf xr yst yf yr Q k s h) := cc_fr ht k1 (by omega) (by omega) (fun _ _ _ => rfl) (fun _ _ _ => rfl) (ca_u ca_r (by omega) (by omega)) (ca_u ca_r (by omega) (by omega)) (ca_u ca_r (by omega) (by omega)) (ca_u ca_r (by omega) (by omega)) (ca_l ca_r (by omega) (by omega)) ca_r ca_r ca_r ca_r ca_c (ca_u ca_r (by omega) (by omega)) (ca_u (ca_u ca_r (by omega) (by omega)) (by omega) (by omega)) ca_r (ca_u (ca_u ca_r (by omega) (by omega)) (by omega) (by omega))
              refine sA_ap ht hyp h1 g1 g2 g3 g4 g5 g6 g7 g8 g9 g10 g11 g12 g13 g14 g15 hn hT b1 b2 b3 b4 b5 b6 hk hv hD11 hlt (fun post KK => xE post (x_e71 h7 pk_us (by omega) (by omega) og b5p KK)) (xs_a (fun post KK => x_adv1 h7 pk_us (by omega) (pk_us.trans hfg) (x_c10 h7 (by omega) pk_us (by omega) og pk_us (x_finish h7 pk_us KK)))) (fun post KK => yE post (y_begin0 h7 (by omega) b6p (by rw [(hyp g f1).2, hpg]) (y_ret1 h7 pk_us b4p (by omega) KK))) ?_
              rw [pk_uLs]
              obtain ⟨φ3, r1, r2⟩ := cr_pop (d := 0) (φ := φ') (ec := ec) (en := en) (ft := ft) (gv := gv) (xN := xN) (xL := xL) (xp := xp) (xl := xl) (xo := xo) (yN := yN) (yi := yi) (yo := yo) (yp := yp) ht h4 b1p pk_us pk_us hsh hk' (by rw [ch_s]; omega) cv_nil
              exact ⟨φ3, by omega, r2⟩
            · have kd0 := (ht.2.2.2.2 g f1).2.2.2.2.2.1 0 hpg
              have hlg := (ht.2.2.2.2 g f1).2.2.2.1.1
              have hzK := cf_z ht (cc_FR h1) (by omega) hsh
              obtain ⟨φ', hφ, hk'⟩ := cr_beat (P' := ch_ P s (T s h + 4 * (E g - kd g 0) + 3)) (d := 2) hk h7 hqf rfl (by omega)
              obtain ⟨u2, v2, r1, r2, r3⟩ := enter_1 (m := g) (e := e2) (q0 := q0) (d := 2) (φ := φ) (φ' := φ') (q := q + 1) (ec := ec) (en := en) (ft := ft) (cr := cr) (gv := gv) (gt := gt) (xN := xN) (xL := xL) (xp := xp) (xl := xl) (xo := xo) (yN := yN) (yi := yi) (yo := yo) (yp := yp) ht hyp k1 (by omega) (by omega) f1 f2 p2 p3 k2 k3 k4 (by omega) pk_us (by rw [b4p]; exact congrArg nI (by omega)) b5p b6p hpg hφ hk'
              exact sA_ap ht hyp h1 g1 g2 g3 g4 g5 g6 g7 g8 g9 g10 g11 g12 g13 g14 g15 hn hT b1 b2 b3 b4 b5 b6 hk hv hD11 hlt (fun post KK => xE post (r1 post KK)) (xs_0 _) (fun post KK => yE post (r2 post KK)) r3
          · obtain rfl : q = fu := by have := hk.1.1; omega
            have hφ2 : P s ≤ φ := by have h3 := sm_le (f := P) 7 h7; have h4 := hk.1.2.2.1; omega
            exact sA_ap ht hyp h1 g1 g2 g3 g4 g5 g6 g7 g8 g9 g10 g11 g12 g13 g14 g15 hn hT b1 b2 b3 b4 b5 b6 hk hv hD11 hlt (fun post KK => x_c11 h7 (by omega) g5 (by omega) o11 (x_caE (by omega) g5 (by omega) xi (by omega) f4 (by omega) p2 hxp (by omega) (by omega) c4 hq h7 b5p (by omega) (by omega) (by omega) (by omega) hV7 (by omega) KK)) (xs_0 _) (fun post KK => y_a11 h7 hw (by omega) o11 (y_call h7 hw (by omega) hyp' (by omega) z1 z2 (y_caE yi' (by omega) f5 (by omega) p2 (by omega) (by omega) (by omega) (by omega) hV7 (fun q hq => c5 q _ hq) hq h7 b6p (by omega) (by omega) KK))) (cr_fuel h1.1.1 h1.1.2.1 hk (by omega))
        · exact sA_raise ht hyp h1 g1 g2 g3 g4 g5 g6 g7 g8 g9 g10 g11 g12 g13 g14 g15 hn hT b1 b2 b3 b4 b5 b6 hk hv hD11 hlt 7 (fun post KK => x_c11 h7 (by omega) g5 (by omega) o11 (x_ca7 (by omega) g5 (by omega) xi (by omega) f4 (by omega) p2 hxp (by omega) (by omega) c4 hq h7 b5p (by omega) (by omega) (by omega) (by omega) (by omega) KK)) (fun post KK => y_a11 h7 hw (by omega) o11 (y_call h7 hw (by omega) hyp' (by omega) z1 z2 (y_ca7 yi' (by omega) f5 (by omega) p2 (by omega) (by omega) (by omega) (by omega) (by omega) (fun q hq => c5 q _ hq) hq h7 b6p (by omega) (by omega) KK)))
    · exact sA_raise ht hyp h1 g1 g2 g3 g4 g5 g6 g7 g8 g9 g10 g11 g12 g13 g14 g15 hn hT b1 b2 b3 b4 b5 b6 hk hv hD11 hlt 3 (fun post KK => x_c11 h7 (by omega) g5 (by omega) o11 (x_ca3 (by omega) g5 (by omega) xi (by omega) f4 (by omega) p2 hxp (by omega) (by omega) c4 hq KK)) (fun post KK => y_a11 h7 hw (by omega) o11 (y_call h7 hw (by omega) hyp' (by omega) z1 z2 (y_ca3 yi' (by omega) f5 (by omega) p2 (by omega) (by omega) (fun q hq => c5 q _ hq) hq KK)))
  · exact sA_raise ht hyp h1 g1 g2 g3 g4 g5 g6 g7 g8 g9 g10 g11 g12 g13 g14 g15 hn hT b1 b2 b3 b4 b5 b6 hk hv hD11 hlt 2 (fun post KK => x_c11 h7 (by omega) g5 (by omega) o11 (x_caA (by omega) g5 c1 c2 KK)) (fun post KK => y_a11 h7 hw (by omega) o11 (y_call h7 hw (by omega) hyp' (by omega) z1 z2 (y_caA (fun q hq => c3 q _ hq) KK)))
end
