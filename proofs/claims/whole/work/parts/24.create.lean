section
variable {xd xg xN xL xF xV xC xs ph : Int32} {cr : Int64} {ec en ft bt pr : Int32} {op a b xp fi xl nx xo fn fe vn vo : Nat → Int32} {vv : Nat → Int64} {xst xf xr xh xc fN fX fS fT : Nat → Int32} {fL pv : Nat → Int64}
variable {post : SX → Prop}
theorem x_crA {i m : Nat} {x : Int64} {k : Int32} (hi : i < 896) (hn : fN i = nI m) (hk : k ≠ 2) (hf : ∀ q : Int32 → Prop, q k → wpX_kindOf q x) (K : wpX_raise post (xd, xg, xN, xL, xF, xV, xC, xs, ph, cr, ec, en, ft, bt, pr, op, a, b, xp, fi, xl, nx, xo, fn, fe, vn, vo, vv, xst, xf, xr, xh, xc, fN, fX, fS, fT, fL, pv) 2 (nI m)) : wpX_concludeCreate post (xd, xg, xN, xL, xF, xV, xC, xs, ph, cr, ec, en, ft, bt, pr, op, a, b, xp, fi, xl, nx, xo, fn, fe, vn, vo, vv, xst, xf, xr, xh, xc, fN, fX, fS, fT, fL, pv) (nI i) x := by
  have ei := nc_ (n := i) (by omega)
  exact ⟨vi_ hi (by omega), nm_r (e' := nI m) (by rw [ei, hn]) (hf _ (br_f hk K))⟩
theorem x_crB {i m f g p : Nat} {x : Int64} (hi : i < 896) (hn : fN i = nI m) (hx : x.toInt32 = nI f) (hf : f < 40) (hg : fn f = nI g) (hg2 : g < 96) (hp : b g = nI p) (hp1 : 1 < p) (hp3 : p < 100) (hk : ∀ q : Int32 → Prop, q 2 → wpX_kindOf q x) (K : wpX_raise post (xd, xg, xN, xL, xF, xV, xC, xs, ph, cr, ec, en, ft, bt, pr, op, a, b, xp, fi, xl, nx, xo, fn, fe, vn, vo, vv, xst, xf, xr, xh, xc, fN, fX, fS, fT, fL, pv) 2 (nI m)) : wpX_concludeCreate post (xd, xg, xN, xL, xF, xV, xC, xs, ph, cr, ec, en, ft, bt, pr, op, a, b, xp, fi, xl, nx, xo, fn, fe, vn, vo, vv, xst, xf, xr, xh, xc, fN, fX, fS, fT, fL, pv) (nI i) x := by
  have ei := nc_ (n := i) (by omega)
  have ef := nc_ (n := f) (by omega)
  have eg := nc_ (n := g) (by omega)
  refine ⟨vi_ hi (by omega), nm_r (e' := nI m) (by rw [ei, hn]) (hk _ (br_t rfl ?_))⟩
  rw [hx, ef, hg, eg, hp]
  exact ⟨vi_ hf (by omega), vi_ hg2 (by omega), br_f (nI_ge (a := 1) hp1 (by omega)) K⟩
theorem x_crC {i m f g p : Nat} {x : Int64} (hi : i < 896) (hn : fN i = nI m) (hx : x.toInt32 = nI f) (hf : f < 40) (hg : fn f = nI g) (hg2 : g < 96) (hp : b g = nI p) (hp1 : p ≤ 1) (hk : ∀ q : Int32 → Prop, q 2 → wpX_kindOf q x) (K : wpX_raise post (xd, xg, xN, xL, xF, xV, (nI 6), xs, ph, cr, ec, en, ft, bt, pr, op, a, b, xp, fi, xl, nx, xo, fn, fe, vn, vo, vv, xst, xf, xr, xh, xc, fN, fX, fS, fT, fL, pv) 7 (nI m)) : wpX_concludeCreate post (xd, xg, xN, xL, xF, xV, (nI 6), xs, ph, cr, ec, en, ft, bt, pr, op, a, b, xp, fi, xl, nx, xo, fn, fe, vn, vo, vv, xst, xf, xr, xh, xc, fN, fX, fS, fT, fL, pv) (nI i) x := by
  have ei := nc_ (n := i) (by omega)
  have ef := nc_ (n := f) (by omega)
  have eg := nc_ (n := g) (by omega)
  refine ⟨vi_ hi (by omega), nm_r (e' := nI m) (by rw [ei, hn]) (hk _ (br_t rfl ?_))⟩
  rw [hx, ef, hg, eg, hp]
  exact ⟨vi_ hf (by omega), vi_ hg2 (by omega), br_t (nI_le (b := 1) hp1 (by omega)) (br_f (by decide) K)⟩
theorem x_crD {i m f g p C : Nat} {x : Int64} (hi : i < 896) (hn : fN i = nI m) (hx : x.toInt32 = nI f) (hf : f < 40) (hg : fn f = nI g) (hg2 : g < 96) (hp : b g = nI p) (hp1 : p ≤ 1) (hC : C < 6) (hk : ∀ q : Int32 → Prop, q 2 → wpX_kindOf q x) (K : wpX_finish post (xd, xg, xN, xL, xF, xV, (nI (C + 1)), xs, ph, cr, ec, en, ft, bt, pr, op, a, b, xp, fi, xl, nx, xo, fn, fe, vn, vo, vv, (upd xst (C + 1) 0), (upd xf (C + 1) (nI f)), xr, (upd xh (C + 1) 0), (upd xc (C + 1) 0), fN, fX, fS, fT, fL, pv) (lN (12884901888 + C + 1))) : wpX_concludeCreate post (xd, xg, xN, xL, xF, xV, (nI C), xs, ph, cr, ec, en, ft, bt, pr, op, a, b, xp, fi, xl, nx, xo, fn, fe, vn, vo, vv, xst, xf, xr, xh, xc, fN, fX, fS, fT, fL, pv) (nI i) x := by
  have ei := nc_ (n := i) (by omega)
  have ef := nc_ (n := f) (by omega)
  have eg := nc_ (n := g) (by omega)
  have ec' := nc_ (n := C + 1) (by omega)
  have w := vi_ (n := C + 1) (N := 7) (by omega) (by omega)
  refine ⟨vi_ hi (by omega), nm_r (e' := nI m) (by rw [ei, hn]) (hk _ (br_t rfl ?_))⟩
  rw [hx, ef, hg, eg, hp]
  refine ⟨vi_ hf (by omega), vi_ hg2 (by omega), br_t (nI_le (b := 1) hp1 (by omega)) (br_t (nI_lt (b := 6) hC (by omega)) (nm_r (nI_1 C) ⟨w, nm_r (e' := upd xst (C + 1) 0) (by rw [ec']) ⟨w, nm_r (e' := upd xf (C + 1) (nI f)) (by rw [ec']) ⟨w, nm_r (e' := upd xh (C + 1) 0) (by rw [ec']) ⟨w, nm_r (e' := upd xc (C + 1) 0) (by rw [ec']) ?_⟩⟩⟩⟩))⟩
  unfold wpX_valueOf
  rw [vo_3 (by omega)]
  exact K
end
section
variable {yd yg yN yi yo yV yF yC ys yft ybt res yer ypl ypr rn hs : Int32} {gv gt : Int64} {op a b pa fi nx yp wn wu gn ge : Nat → Int32} {wv : Nat → Int64} {yl ya ye : Nat → Int32} {yk : Nat → Int64} {yt yc yst yf yr : Nat → Int32} {ou : Nat → Int64}
variable {post : SY → Prop}
theorem y_crA {m : Nat} {v : Int64} (hf : ∀ q : Int32 → Prop, q 0 → wpY_function q (yd, yg, yN, yi, yo, yV, yF, yC, ys, yft, ybt, res, yer, ypl, ypr, rn, hs, gv, gt, op, a, b, pa, fi, nx, yp, wn, wu, gn, ge, wv, yl, ya, ye, yk, yt, yc, yst, yf, yr, ou) v) (K : wpY_raise post (yd, yg, yN, yi, yo, yV, yF, yC, ys, yft, ybt, res, yer, ypl, ypr, rn, hs, gv, gt, op, a, b, pa, fi, nx, yp, wn, wu, gn, ge, wv, yl, ya, ye, yk, yt, yc, yst, yf, yr, ou) 2 (nI m)) : wpY_create post (yd, yg, yN, yi, yo, yV, yF, yC, ys, yft, ybt, res, yer, ypl, ypr, rn, hs, gv, gt, op, a, b, pa, fi, nx, yp, wn, wu, gn, ge, wv, yl, ya, ye, yk, yt, yc, yst, yf, yr, ou) (nI m) v := by
  unfold wpY_create
  dsimp only
  exact hf _ (br_t rfl K)
theorem y_crB {m f g p : Nat} {v : Int64} (hx : (v - 8589934592).toInt32 = nI f) (hf : f < 40) (hg : gn f = nI g) (hg2 : g < 96) (hp : b g = nI p) (hp1 : 1 < p) (hp3 : p < 100) (hk : ∀ q : Int32 → Prop, q 1 → wpY_function q (yd, yg, yN, yi, yo, yV, yF, yC, ys, yft, ybt, res, yer, ypl, ypr, rn, hs, gv, gt, op, a, b, pa, fi, nx, yp, wn, wu, gn, ge, wv, yl, ya, ye, yk, yt, yc, yst, yf, yr, ou) v) (K : wpY_raise post (yd, yg, yN, yi, yo, yV, yF, yC, ys, yft, ybt, res, yer, ypl, ypr, rn, hs, gv, gt, op, a, b, pa, fi, nx, yp, wn, wu, gn, ge, wv, yl, ya, ye, yk, yt, yc, yst, yf, yr, ou) 2 (nI m)) : wpY_create post (yd, yg, yN, yi, yo, yV, yF, yC, ys, yft, ybt, res, yer, ypl, ypr, rn, hs, gv, gt, op, a, b, pa, fi, nx, yp, wn, wu, gn, ge, wv, yl, ya, ye, yk, yt, yc, yst, yf, yr, ou) (nI m) v := by
  have ef := nc_ (n := f) (by omega)
  have eg := nc_ (n := g) (by omega)
  unfold wpY_create
  dsimp only
  refine hk _ (br_f (by decide) ?_)
  rw [hx, ef, hg, eg, hp]
  exact ⟨vi_ hf (by omega), vi_ hg2 (by omega), br_f (nI_ge (a := 1) hp1 (by omega)) K⟩
theorem y_crC {m f g p : Nat} {v : Int64} (hx : (v - 8589934592).toInt32 = nI f) (hf : f < 40) (hg : gn f = nI g) (hg2 : g < 96) (hp : b g = nI p) (hp1 : p ≤ 1) (hk : ∀ q : Int32 → Prop, q 1 → wpY_function q (yd, yg, yN, yi, yo, yV, yF, (nI 6), ys, yft, ybt, res, yer, ypl, ypr, rn, hs, gv, gt, op, a, b, pa, fi, nx, yp, wn, wu, gn, ge, wv, yl, ya, ye, yk, yt, yc, yst, yf, yr, ou) v) (K : wpY_raise post (yd, yg, yN, yi, yo, yV, yF, (nI 6), ys, yft, ybt, res, yer, ypl, ypr, rn, hs, gv, gt, op, a, b, pa, fi, nx, yp, wn, wu, gn, ge, wv, yl, ya, ye, yk, yt, yc, yst, yf, yr, ou) 7 (nI m)) : wpY_create post (yd, yg, yN, yi, yo, yV, yF, (nI 6), ys, yft, ybt, res, yer, ypl, ypr, rn, hs, gv, gt, op, a, b, pa, fi, nx, yp, wn, wu, gn, ge, wv, yl, ya, ye, yk, yt, yc, yst, yf, yr, ou) (nI m) v := by
  have ef := nc_ (n := f) (by omega)
  have eg := nc_ (n := g) (by omega)
  unfold wpY_create
  dsimp only
  refine hk _ (br_f (by decide) ?_)
  rw [hx, ef, hg, eg, hp]
  exact ⟨vi_ hf (by omega), vi_ hg2 (by omega), br_t (nI_le (b := 1) hp1 (by omega)) (br_t rfl K)⟩
theorem y_crD {m f g p C : Nat} {v : Int64} (hx : (v - 8589934592).toInt32 = nI f) (hf : f < 40) (hg : gn f = nI g) (hg2 : g < 96) (hp : b g = nI p) (hp1 : p ≤ 1) (hC : C < 6) (hk : ∀ q : Int32 → Prop, q 1 → wpY_function q (yd, yg, yN, yi, yo, yV, yF, (nI C), ys, yft, ybt, res, yer, ypl, ypr, rn, hs, gv, gt, op, a, b, pa, fi, nx, yp, wn, wu, gn, ge, wv, yl, ya, ye, yk, yt, yc, yst, yf, yr, ou) v) (K : wpY_finish post (yd, yg, yN, yi, yo, yV, yF, (nI (C + 1)), ys, yft, ybt, res, yer, ypl, ypr, rn, hs, gv, gt, op, a, b, pa, fi, nx, yp, wn, wu, gn, ge, wv, yl, ya, ye, yk, yt, yc, (upd yst (C + 1) 0), (upd yf (C + 1) (nI f)), yr, ou) (lN (12884901888 + C))) : wpY_create post (yd, yg, yN, yi, yo, yV, yF, (nI C), ys, yft, ybt, res, yer, ypl, ypr, rn, hs, gv, gt, op, a, b, pa, fi, nx, yp, wn, wu, gn, ge, wv, yl, ya, ye, yk, yt, yc, yst, yf, yr, ou) (nI m) v := by
  have ef := nc_ (n := f) (by omega)
  have eg := nc_ (n := g) (by omega)
  have ec' := nc_ (n := C + 1) (by omega)
  have w := vi_ (n := C + 1) (N := 7) (by omega) (by omega)
  unfold wpY_create
  dsimp only
  refine hk _ (br_f (by decide) ?_)
  rw [hx, ef, hg, eg, hp]
  refine ⟨vi_ hf (by omega), vi_ hg2 (by omega), br_t (nI_le (b := 1) hp1 (by omega)) (br_f (fun z => ?_) (nm_r (nI_1 C) ⟨w, nm_r (e' := upd yf (C + 1) (nI f)) (by rw [ec']) ⟨w, nm_r (e' := upd yst (C + 1) 0) (by rw [ec']) ?_⟩⟩))⟩
  · have := (nI_eq (a := C) (b := 6) (by omega) (by omega)).mp z
    omega
  · rw [vo_c (by omega)]
    exact K
end
section
variable {op a b fi nx pa : Nat → Int32} {N : Nat} {oc pc E lv : Nat → Nat} {kd : Nat → Nat → Nat} {SC : Nat → Int32 → Prop}
variable {F C V : Nat} {D : Nat → Int32 → Prop} {K T : Nat → Nat → Nat} {fN fX fS fT : Nat → Int32} {fL : Nat → Int64} {yl ya ye : Nat → Int32} {yk : Nat → Int64} {P H : Nat → Nat} {dep : Nat} {xh xc yt yc fn fe gn ge vn vo : Nat → Int32} {vv : Nat → Int64} {wn wu : Nat → Int32} {wv : Nat → Int64} {xst xf xr yst yf yr : Nat → Int32} {Q : Nat → Nat} {k s h : Nat}
variable {fu : Nat} {xN xL : Int32} {xp xl xo : Nat → Int32} {yN yi yo : Int32} {yp : Nat → Int32}
variable {ph ec en ft : Int32} {cr gv gt : Int64} {q w φ : Nat} {pv ou : Nat → Int64} {hs : Int32}
theorem sA_create {n i e : Nat} (ht : (ct_all op a b fi nx pa N oc pc E lv kd SC)) (hyp : ∀ n, n < N → xp n = nI (pc n) ∧ yp n = nI (pc n)) (h1 : (cc_C N oc pc E lv kd a b SC F C V D K T fN fX fS fT fL yl ya ye yk P H dep xh xc yt yc fn fe gn ge vn vo vv wn wu wv xst xf xr yst yf yr Q k s h)) (g1 : n < N) (g2 : oc n < 19) (g3 : i < pc n) (g4 : e ≤ V) (g5 : fN (s * 128 + h) = nI n) (g6 : fT (s * 128 + h) = nI (ct_tk (oc n) i)) (g7 : fS (s * 128 + h) = nI e) (g8 : yl (112 * s + (h + K s (h + 1) - cz_ s)) = nI n) (g9 : ya (112 * s + (h + K s (h + 1) - cz_ s)) = nI i) (g10 : ye (112 * s + (h + K s (h + 1) - cz_ s)) = nI e - 1) (g11 : ∀ c, ct_in oc a b SC n i c → D e c) (g12 : cf_S F C (oc n) i (fun q => fL ((s * 128 + h) * 4 + q)) (fun q => yk (3 * (112 * s + (h + K s (h + 1) - cz_ s)) + q))) (g13 : K s (h + 1) = K s h + (if oc n = 10 then 1 else 0)) (g14 : cz_ s ≤ K s (h + 1)) (g15 : h + 1 + K s (h + 1) ≤ 16 * K s (h + 1) + lv n + cz_ s) (hn : fX (s * 128 + h) = ct_nx pc kd n (i + 1)) (hT : T s h + 4 * (E n - E (kd n i)) + 3 ≤ T s (h + 1)) (b1 : K s (h + 1) ≤ dep) (b2 : T s (h + 1) + 2 ≤ P s) (b3 : xh s = nI (h + 1)) (b4 : yt s = nI (h + 1 + K s (h + 1) - cz_ s)) (b5 : xc s = nI (K s (h + 1))) (b6 : yc s = nI (K s (h + 1))) (hk : (cr_K φ fu q w F C P pv ou)) (hv : cv_R F C cr gt) (hd : oc n = 15) : ∃ u2 v2 kx, xs_ (kx + 1) ((nI dep), (nI fu), xN, xL, (nI F), (nI V), (nI C), (nI s), (-2), cr, ec, en, ft, (nI q), (nI w), op, a, b, xp, fi, xl, nx, xo, fn, fe, vn, vo, vv, xst, xf, xr, xh, xc, fN, fX, fS, fT, fL, pv) u2 ∧ (∀ post : SY → Prop, post v2 → wpY_deliver post ((nI dep), (nI fu), yN, yi, yo, (nI V), (nI F), (nI C), (nI s), ft, (nI q), 0, 0, (-1), (nI w), 1, 0, gv, gt, op, a, b, pa, fi, nx, yp, wn, wu, gn, ge, wv, yl, ya, ye, yk, yt, yc, yst, yf, yr, ou) gt) ∧ cr_T op a b fi nx pa N oc pc E lv kd SC dep fu xN xL xp xl xo yN yi yo yp φ (kx + 1) u2 v2 := by
  have h7 := (cc_s h1).2
  have h6 := cc_dep h1
  have hKK : K s h ≤ K s (h + 1) := by omega
  have hh := cf_h ht (cc_FR h1) (by omega)
  have hN := ht.2.1
  have hl := (ht.2.2.2.2 n g1).2.2.2.1.2 (by omega)
  have hzl := cz_le s
  have hw : h + K s (h + 1) - cz_ s < 112 := by omega
  have o_ : op n = nI (oc n) := ct_op ht g1 rfl
  have b4' : yt s = nI (h + K s (h + 1) - cz_ s + 1) := by rw [b4]; exact congrArg nI (by omega)
  have hpn := (ht.2.2.2.2 n g1).1.2.2.2
  have yp_ := (hyp n g1).2
  have hEn := ct_E ht g1
  have hkd := (ht.2.2.2.2 n g1).2.2.2.2.2.1
  have h10 : oc n ≠ 10 := by omega
  have hK0 : K s (h + 1) = K s h := by rw [g13, if_neg h10]; rfl
  have b4p : yt s = nI (h + K s h - cz_ s + 1) := by rw [← hK0]; exact b4'
  have g8p : yl (112 * s + (h + K s h - cz_ s)) = nI n := by rw [← hK0]; exact g8
  have b1p : K s h ≤ dep := by omega
  have b5p : xc s = nI (K s h) := by rw [← hK0]; exact b5
  have b6p : yc s = nI (K s h) := by rw [← hK0]; exact b6
  have hwp : h + K s h - cz_ s < 112 := by omega
  have hsh : 1 ≤ s → 1 ≤ h := fun hs1 => by
    have z1 := cz_1 hs1
    rcases Nat.eq_zero_or_pos h with hz | hz
    · subst hz
      have := h1.2.1 s
      omega
    · exact hz
  have hp1 := ct_p1 ht g1 (by omega)
  obtain rfl : i = 0 := by omega
  have o15 : op n = 15 := o_.trans (by rw [hd]; rfl)
  have e0 : vp_updL fL ((s * 128 + h) * 4 + 0) cr ((s * 128 + h) * 4) = cr := pk_uLs
  have hF4 := h1.1.1
  have hC6 := h1.1.2.1
  rcases xy_fun h1.1.1 h1.1.2.1 hv with ⟨f, c1, c2, c3, c4, c5⟩ | ⟨⟨kk, c1, c2⟩, c3⟩
  · obtain ⟨g, e', f1, f2, f3, f4, f5, f6, f7, f8⟩ := h1.2.2.2.1 f c1
    obtain ⟨p, r, p1, p2, p3, p4⟩ := (ht.2.2.2.2 g f1).2.1 f2
    have xi : cr.toInt32 = nI f := by rw [c2, vo_i2]
    have yi' : (gt - 8589934592).toInt32 = nI f := by rw [c3, vo_y2]
    rcases Nat.lt_or_ge 1 r with hr | hr
    · exact sA_raise ht hyp h1 g1 g2 g3 g4 g5 g6 g7 g8 g9 g10 g11 g12 g13 g14 g15 hn hT b1 b2 b3 b4 b5 b6 hk hv (Or.inr (Or.inl (by omega))) (by omega) 2 (fun post K => x_c15 h7 (by omega) g5 (by omega) o15 (by rw [e0]; exact x_crB (by omega) g5 xi (by omega) f4 (by omega) p2 hr (by omega) c4 K)) (fun post K => y_a15 h7 hw (by omega) o15 (y_crB yi' (by omega) f5 (by omega) p2 hr (by omega) (fun q hq => c5 q _ hq) K))
    · rcases Nat.lt_or_ge C 6 with hC | hC
      · have h2 := cc_tk (n := n) (i := 0) (x := cr) ht h1 b1p (by omega)
        have h3 := cc_new (f := f) (n := g) (q := r) ht h2 hC c1 f4 f1 p2 hr
        have hsC := (cc_s h1).1
        refine sA_ap ht hyp h1 g1 g2 g3 g4 g5 g6 g7 g8 g9 g10 g11 g12 g13 g14 g15 hn hT b1 b2 b3 b4 b5 b6 hk hv (Or.inr (Or.inl (by omega))) (by omega) (fun post K => x_c15 h7 (by omega) g5 (by omega) o15 (by rw [e0]; exact x_crD (by omega) g5 xi (by omega) f4 (by omega) p2 hr hC c4 (x_finish h7 ((pk_un (by omega)).trans b3) K))) (xs_0 _) (fun post K => y_a15 h7 hw (by omega) o15 (y_crD yi' (by omega) f5 (by omega) p2 hr hC (fun q hq => c5 q _ hq) (y_finish h7 b4p hwp g8p (by omega) o_ (by omega) h10 K))) (cr_pop ht h3 b1p ((pk_un (by omega)).trans b5p) b6p hsh (cr_Kmono hk (Nat.le_refl _) (Nat.le_succ _)) (by omega) (cv_co (by omega) (by omega)))
      · obtain rfl : C = 6 := by omega
        exact sA_raise ht hyp h1 g1 g2 g3 g4 g5 g6 g7 g8 g9 g10 g11 g12 g13 g14 g15 hn hT b1 b2 b3 b4 b5 b6 hk hv (Or.inr (Or.inl (by omega))) (by omega) 7 (fun post K => x_c15 h7 (by omega) g5 (by omega) o15 (by rw [e0]; exact x_crC (by omega) g5 xi (by omega) f4 (by omega) p2 hr c4 K)) (fun post K => y_a15 h7 hw (by omega) o15 (y_crC yi' (by omega) f5 (by omega) p2 hr (fun q hq => c5 q _ hq) K))
  · exact sA_raise ht hyp h1 g1 g2 g3 g4 g5 g6 g7 g8 g9 g10 g11 g12 g13 g14 g15 hn hT b1 b2 b3 b4 b5 b6 hk hv (Or.inr (Or.inl (by omega))) (by omega) 2 (fun post K => x_c15 h7 (by omega) g5 (by omega) o15 (by rw [e0]; exact x_crA (by omega) g5 c1 c2 K)) (fun post K => y_a15 h7 hw (by omega) o15 (y_crA (fun q hq => c3 q _ hq) K))
end
