section
variable {op a b fi nx pa : Nat → Int32} {N : Nat} {oc pc E lv : Nat → Nat} {kd : Nat → Nat → Nat} {SC : Nat → Int32 → Prop}
variable {F C V : Nat} {D : Nat → Int32 → Prop} {K T : Nat → Nat → Nat} {fN fX fS fT : Nat → Int32} {fL : Nat → Int64} {yl ya ye : Nat → Int32} {yk : Nat → Int64} {P H : Nat → Nat} {dep : Nat} {xh xc yt yc fn fe gn ge vn vo : Nat → Int32} {vv : Nat → Int64} {wn wu : Nat → Int32} {wv : Nat → Int64} {xst xf xr yst yf yr : Nat → Int32} {Q : Nat → Nat} {k s h : Nat}
variable {fu : Nat} {xN xL : Int32} {xp xl xo : Nat → Int32} {yN yi yo : Int32} {yp : Nat → Int32}
variable {ph ec en ft : Int32} {cr gv gt : Int64} {q w φ : Nat} {pv ou : Nat → Int64} {hs : Int32}
/-- a fresh coroutine t begins with function node g, in scope e -/
theorem res_go {t g e q0 d φ' : Nat} (ht : (ct_all op a b fi nx pa N oc pc E lv kd SC)) (hyp : ∀ n, n < N → xp n = nI (pc n) ∧ yp n = nI (pc n)) (ht1 : 1 ≤ t) (h1 : (cc_C N oc pc E lv kd a b SC F C V D K T fN fX fS fT fL yl ya ye yk P H dep xh xc yt yc fn fe gn ge vn vo vv wn wu wv xst xf xr yst yf yr Q k t 0)) (hg : g < N) (ho : oc g = 10) (hb : b g = nI q0) (hq3 : q0 ≤ 3) (he : e ≤ V) (hS : ∀ c, SC g c → D e c) (hpar : ∀ r, r < q0 → D e (a g + nI r)) (hxh : xh t = 0) (hyt : yt t = 0) (hx : xc t = 0) (hy : yc t = 0) (hφ : φ' + d ≤ φ + 400) (hφ4 : d ≤ 400) (hq : q < fu) (hk : (cr_K φ' fu q w F C P pv ou)) :
    ∃ u1 u2 v2 j, (∀ post : SX → Prop, post u1 → wX_enter_71 post (nI g) (nI e) (nI dep) (nI fu) xN xL (nI F) (nI V) (nI C) (nI t) (-1) cr ec en ft (nI (q + 1)) (nI w) op a b xp fi xl nx xo fn fe vn vo vv xst xf xr xh xc fN fX fS fT fL pv) ∧ xs_ j u1 u2 ∧ (∀ post : SY → Prop, post v2 → wpY_begin post ((nI dep), (nI fu), yN, yi, yo, (nI V), (nI F), (nI C), (nI t), ft, (nI (q + 1)), 0, 0, (-1), (nI w), 1, 0, gv, gt, op, a, b, pa, fi, nx, yp, wn, wu, gn, ge, wv, yl, ya, ye, yk, yt, yc, yst, yf, yr, ou) (nI g) (nI e - 1)) ∧ cr_T op a b fi nx pa N oc pc E lv kd SC dep fu xN xL xp xl xo yN yi yo yp φ' (j + 5) u2 v2 := by
  have hN := ht.2.1
  have h7 := (cc_s h1).2
  have hdep := h1.1.2.2.2.2.1
  have h6 := cc_dep h1
  have hzt := cz_1 ht1
  have h2 := cc_T0 ht h1
  have hK00 := h1.2.1 t
  have hEg := ct_E ht hg
  have og : op g = 10 := ct_op ht hg ho
  have hxh' : xh t = nI 0 := hxh
  have hyt' : yt t = nI 0 := hyt
  have hx' : xc t = nI 0 := hx
  have hy' : yc t = nI 0 := hy
  rcases Nat.eq_zero_or_pos (pc g) with hpg | hpg
  · have hfg : fi g = -1 := (ht.2.2.2.2 g hg).2.2.2.2.1.1 hpg
    obtain ⟨φ1, e1, hk1⟩ := cr_beat (s := t) (P' := ch_ P t (P t)) (m := P t) (d := 400) hk h7 hq rfl (by omega)
    have hP : ch_ P t (P t) = P := by funext r; unfold ch_; split <;> simp_all
    rw [hP] at hk1
    have h3 : (cc_C N oc pc E lv kd a b SC F C V D K (kt_ T t 0 0) (upd fN (t * 128 + 0) (nI g)) (upd fX (t * 128 + 0) (fi g)) (upd fS (t * 128 + 0) (nI e)) (upd fT (t * 128 + 0) 0) (vp_updL fL ((t * 128 + 0) * 4) 0) yl ya ye yk P H dep (upd (upd xh t (nI (0 + 1))) t (nI 0)) (upd (upd xc t (nI (0 + 1))) t (nI 0)) yt (upd (upd yc t (nI (0 + 1))) t (nI 0)) fn fe gn ge vn vo vv wn wu wv xst xf xr yst yf yr Q k t 0) := cc_fr ht h2 (by omega) (by omega) (fun _ _ _ => rfl) (fun _ _ _ => rfl) (ca_u ca_r (by omega) (by omega)) (ca_u ca_r (by omega) (by omega)) (ca_u ca_r (by omega) (by omega)) (ca_u ca_r (by omega) (by omega)) (ca_l ca_r (by omega) (by omega)) ca_r ca_r ca_r ca_r ca_r (ca_u (ca_u ca_r (by omega) (by omega)) (by omega) (by omega)) (ca_u (ca_u ca_r (by omega) (by omega)) (by omega) (by omega)) ca_r (ca_u (ca_u ca_r (by omega) (by omega)) (by omega) (by omega))
    obtain ⟨r, j, z1, z2, z3, z4, z5, z6, z7, z8⟩ := cr_leave (m := 0) (wd := 2) (d := 0) (φ := φ1) (val := 0) (vy := 4294967296) (ft := ft) (ec := ec) (en := en) (gv := gv) (xN := xN) (xL := xL) (xp := xp) (xl := xl) (xo := xo) (yN := yN) (yi := yi) (yo := yo) (yp := yp) ht h3 (by omega) hk1 ht1 (Or.inr rfl) (by omega) (fun h => by omega) cv_nil
    refine ⟨_, _, _, 2, fun post KK => x_e71 h7 hxh' (by omega) (by omega) og hx' KK, xs_t (xs_a (fun post KK => x_adv1 h7 pk_us (by omega) (pk_us.trans hfg) (x_c10 h7 (by omega) pk_us (by omega) og pk_us (x_finish h7 pk_us KK)))) (xs_d (fun post KK => x_del0 ht1 h7 z1 pk_us z3 z5 KK)), fun post KK => y_begin0 h7 (by omega) hy' (by rw [(hyp g hg).2, hpg]) (y_ret0 h7 z1 z4 z2 pk_us hyt' z6 KK), ?_⟩
    rw [pk_uLs]
    obtain ⟨φ3, w1, w2⟩ := z8
    exact ⟨φ3, by omega, w2⟩
  · have kd0 := (ht.2.2.2.2 g hg).2.2.2.2.2.1 0 hpg
    have hlg := (ht.2.2.2.2 g hg).2.2.2.1.1
    have hT0 : kt_ T t 0 0 t 0 = 0 := kt_s
    obtain ⟨φ1, e1, hk1⟩ := cr_beat (s := t) (P' := ch_ P t (kt_ T t 0 0 t 0 + 4 * (E g - kd g 0) + 3)) (m := kt_ T t 0 0 t 0 + 4 * (E g - kd g 0) + 3) (d := 5) hk h7 hq rfl (by omega)
    obtain ⟨u2, v2, r1, r2, r3⟩ := enter_1 (s := t) (h := 0) (T := kt_ T t 0 0) (m := g) (e := e) (q0 := q0) (d := 5) (φ := φ') (φ' := φ1) (q := q + 1) (ec := ec) (en := en) (ft := ft) (cr := cr) (gv := gv) (gt := gt) (xN := xN) (xL := xL) (xp := xp) (xl := xl) (xo := xo) (yN := yN) (yi := yi) (yo := yo) (yp := yp) ht hyp h2 (by omega) (by omega) hg ho hb hq3 he hS hpar (by omega) hxh' (by rw [hyt', hK00, hzt]) (by rw [hK00]; exact hx') (by rw [hK00]; exact hy') hpg e1 hk1
    exact ⟨u2, u2, v2, 0, r1, xs_0 _, r2, r3⟩
theorem sA_res {n i e : Nat} (ht : (ct_all op a b fi nx pa N oc pc E lv kd SC)) (hyp : ∀ n, n < N → xp n = nI (pc n) ∧ yp n = nI (pc n)) (h1 : (cc_C N oc pc E lv kd a b SC F C V D K T fN fX fS fT fL yl ya ye yk P H dep xh xc yt yc fn fe gn ge vn vo vv wn wu wv xst xf xr yst yf yr Q k s h)) (g1 : n < N) (g2 : oc n < 19) (g3 : i < pc n) (g4 : e ≤ V) (g5 : fN (s * 128 + h) = nI n) (g6 : fT (s * 128 + h) = nI (ct_tk (oc n) i)) (g7 : fS (s * 128 + h) = nI e) (g8 : yl (112 * s + (h + K s (h + 1) - cz_ s)) = nI n) (g9 : ya (112 * s + (h + K s (h + 1) - cz_ s)) = nI i) (g10 : ye (112 * s + (h + K s (h + 1) - cz_ s)) = nI e - 1) (g11 : ∀ c, ct_in oc a b SC n i c → D e c) (g12 : cf_S F C (oc n) i (fun q => fL ((s * 128 + h) * 4 + q)) (fun q => yk (3 * (112 * s + (h + K s (h + 1) - cz_ s)) + q))) (g13 : K s (h + 1) = K s h + (if oc n = 10 then 1 else 0)) (g14 : cz_ s ≤ K s (h + 1)) (g15 : h + 1 + K s (h + 1) ≤ 16 * K s (h + 1) + lv n + cz_ s) (hn : fX (s * 128 + h) = ct_nx pc kd n (i + 1)) (hT : T s h + 4 * (E n - E (kd n i)) + 3 ≤ T s (h + 1)) (b1 : K s (h + 1) ≤ dep) (b2 : T s (h + 1) + 2 ≤ P s) (b3 : xh s = nI (h + 1)) (b4 : yt s = nI (h + 1 + K s (h + 1) - cz_ s)) (b5 : xc s = nI (K s (h + 1))) (b6 : yc s = nI (K s (h + 1))) (hk : (cr_K φ fu q w F C P pv ou)) (hv : cv_R F C cr gt) (hd : oc n = 16) : ∃ u2 v2 kx, xs_ (kx + 1) ((nI dep), (nI fu), xN, xL, (nI F), (nI V), (nI C), (nI s), (-2), cr, ec, en, ft, (nI q), (nI w), op, a, b, xp, fi, xl, nx, xo, fn, fe, vn, vo, vv, xst, xf, xr, xh, xc, fN, fX, fS, fT, fL, pv) u2 ∧ (∀ post : SY → Prop, post v2 → wpY_deliver post ((nI dep), (nI fu), yN, yi, yo, (nI V), (nI F), (nI C), (nI s), ft, (nI q), 0, 0, (-1), (nI w), 1, 0, gv, gt, op, a, b, pa, fi, nx, yp, wn, wu, gn, ge, wv, yl, ya, ye, yk, yt, yc, yst, yf, yr, ou) gt) ∧ cr_T op a b fi nx pa N oc pc E lv kd SC dep fu xN xL xp xl xo yN yi yo yp φ (kx + 1) u2 v2 := by
  have h7 := (cc_s h1).2
  have h6 := cc_dep h1
  have hKK : K s h ≤ K s (h + 1) := by omega
  have hh := cf_h ht (cc_FR h1) (by omega)
  have hN := ht.2.1
  have hl := (ht.2.2.2.2 n g1).2.2.2.1.2 (by omega)
  have hzl := cz_le s
  have hw : h + K s (h + 1) - cz_ s < 112 := by omega
  have o_ : op n = nI (oc n) := ct_op ht g1 rfl
  have b4' : yt s = nI (h + K s (h + 1) - cz_ s + 1) := by rw [b4]; exact congrArg nI (by omega)
  have hpn := (ht.2.2.2.2 n g1).1.2.2.2
  have yp_ := (hyp n g1).2
  have hEn := ct_E ht g1
  have hkd := (ht.2.2.2.2 n g1).2.2.2.2.2.1
  have h10 : oc n ≠ 10 := by omega
  have hK0 : K s (h + 1) = K s h := by rw [g13, if_neg h10]; rfl
  have b4p : yt s = nI (h + K s h - cz_ s + 1) := by rw [← hK0]; exact b4'
  have g8p : yl (112 * s + (h + K s h - cz_ s)) = nI n := by rw [← hK0]; exact g8
  have b1p : K s h ≤ dep := by omega
  have b5p : xc s = nI (K s h) := by rw [← hK0]; exact b5
  have b6p : yc s = nI (K s h) := by rw [← hK0]; exact b6
  have hwp : h + K s h - cz_ s < 112 := by omega
  have hsh : 1 ≤ s → 1 ≤ h := fun hs1 => by
    have z1 := cz_1 hs1
    rcases Nat.eq_zero_or_pos h with hz | hz
    · subst hz
      have := h1.2.1 s
      omega
    · exact hz
  have hD : oc n < 5 ∨ 10 < oc n ∨ oc n = 9 := Or.inr (Or.inl (by omega))
  have hp2 : pc n = 2 := by
    have h3 := ct_mn' ht g1
    rw [hd] at h3
    have e1 : ct_mx 16 = 2 := rfl
    have e2 : ct_mn 16 = 2 := rfl
    omega
  by_cases hlt : i + 1 < pc n
  · exact sA_Dn ht hyp h1 g1 g2 g3 g4 g5 g6 g7 g8 g9 g10 g11 g12 g13 g14 g15 hn hT b1 b2 b3 b4 b5 b6 hk hv hD hlt
  obtain rfl : i = 1 := by omega
  have o16 : op n = 16 := o_.trans (by rw [hd]; rfl)
  have h2 := cc_tk (n := n) (i := 1) (x := cr) ht h1 b1p (by omega)
  have hv0 : cv_R F C (fL ((s * 128 + h) * 4)) (yk (3 * (112 * s + (h + K s (h + 1) - cz_ s)))) := g12.2 (by omega) 0 (by omega) (by omega)
  have e0 : vp_updL fL ((s * 128 + h) * 4 + 1) cr ((s * 128 + h) * 4) = fL ((s * 128 + h) * 4) := pk_uLn (by omega)
  have hF4 := h1.1.1
  have hC6 := h1.1.2.1
  have hV2 := h1.1.2.2.1
  have hfu := hk.1.2.1
  have hzK := cf_z ht (cc_FR h1) (by omega) hsh
  have hφ2 : P s ≤ φ := by have h3 := sm_le (f := P) 7 h7; have h4 := hk.1.2.2.1; omega
  rcases xy_co hF4 hC6 hv0 with ⟨c, c1, c2, c3, c4, c5⟩ | ⟨⟨kk, c1, c2⟩, c3⟩
  · obtain ⟨t, ht7⟩ : ∃ t, t = c + 1 := ⟨_, rfl⟩
    have xi : (fL ((s * 128 + h) * 4)).toInt32 = nI t := by rw [c2, vo_i3, ht7]
    have yi' : (yk (3 * (112 * s + (h + K s (h + 1) - cz_ s))) - 12884901888).toInt32 + 1 = nI t := by rw [c3, vo_y3, ht7]
    obtain ⟨φ1, hφ1, hk1⟩ := cr_P (P' := ch_ P s (T s h + 2)) (d := 3) hk h7 rfl (by omega)
    have h3 : (cc_C N oc pc E lv kd a b SC F C V D K T fN fX fS (upd fT (s * 128 + h) (nI (1 + 1))) (vp_updL fL ((s * 128 + h) * 4 + 1) cr) yl ya ye yk (ch_ P s (T s h + 2)) H dep xh xc yt yc fn fe gn ge vn vo vv wn wu wv xst xf xr yst yf yr Q k s h) := cc_fr ht h2 (by omega) (by omega) (fun _ _ _ => rfl) (fun _ _ _ => rfl) ca_r ca_r ca_r ca_r ca_r ca_r ca_r ca_r ca_r ca_c ca_r ca_r ca_r ca_r
    obtain ⟨⟨w', w1, w2, w3⟩, ⟨f, g, p, f1, f2, f3, f4, f5, f6, f7⟩, w4⟩ := h3.2.2.2.2.2.2.1 t (by omega) (by omega)
    obtain ⟨g', e', u1, u2, u3, u4, u5, u6, u7, u8⟩ := h1.2.2.2.1 f f1
    obtain rfl : g' = g := (nI_eq (by omega) (by omega)).mp (u4.symm.trans f4)
    by_cases hw0 : w' = 0
    · subst hw0
      have hxs : xst t = 0 := w2
      have hys : yst t = 0 := w3
      have hzh : cz_ s ≤ h := by
        rcases Nat.eq_zero_or_pos s with hz | hz
        · rw [hz, cz_0]; exact Nat.zero_le _
        · rw [cz_1 hz]; exact hsh hz
      have hSs : (cs_S N oc pc E lv kd a b SC F C V D K T fN fX fS (upd fT (s * 128 + h) (nI (1 + 1))) (vp_updL fL ((s * 128 + h) * 4 + 1) cr) yl ya ye yk (ch_ P s (T s h + 2)) (ch_ H s h) dep xh xc yt yc s) := cs_S_mk (n := n) h3 b1p hzh (by rw [ch_s]; omega) (by omega) hzK b3 (by rw [b4, hK0]) b5p b6p g1 (by omega) g8p
      have xC : ∀ (z : Int32), ((xh t = 0 ∧ z = 1) ∨ (¬ xh t = 0 ∧ z = 0)) → ∀ post : SX → Prop, wX_concludeResume_70 post (nI (s * 128 + h)) (nI n) (nI t) (nI f) z (nI dep) (nI fu) xN xL (nI F) (nI V) (nI C) (nI s) (-1) cr ec en ft (nI q) (nI w) op a b xp fi xl nx xo fn fe vn vo vv xst xf xr xh xc fN fX fS (upd fT (s * 128 + h) (nI (1 + 1))) (vp_updL fL ((s * 128 + h) * 4 + 1) cr) pv → wpX_conclude post ((nI dep), (nI fu), xN, xL, (nI F), (nI V), (nI C), (nI s), (-1), cr, ec, en, ft, (nI q), (nI w), op, a, b, xp, fi, xl, nx, xo, fn, fe, vn, vo, vv, xst, xf, xr, xh, xc, fN, fX, fS, (upd fT (s * 128 + h) (nI (1 + 1))), (vp_updL fL ((s * 128 + h) * 4 + 1) cr), pv) (nI (s * 128 + h)) := fun z hz post KK => x_c16 h7 (by omega) g5 (by omega) o16 (by rw [e0]; exact x_rs70 (by omega) g5 xi (by omega) hxs f2 hz c4 KK)
      have yC : ∀ (z : Int32), ((yt t = 0 ∧ z = 1) ∨ (¬ yt t = 0 ∧ z = 0)) → ∀ post : SY → Prop, wY_resume_54 post (nI n) gt (nI t) (nI g') z (nI dep) (nI fu) yN yi yo (nI V) (nI F) (nI C) (nI s) ft (nI q) 0 0 (-1) (nI w) 1 0 gv gt op a b pa fi nx yp wn wu gn ge wv yl ya ye yk yt yc yst yf yr ou → wpY_apply post ((nI dep), (nI fu), yN, yi, yo, (nI V), (nI F), (nI C), (nI s), ft, (nI q), 0, 0, (-1), (nI w), 1, 0, gv, gt, op, a, b, pa, fi, nx, yp, wn, wu, gn, ge, wv, yl, ya, ye, yk, yt, yc, yst, yf, yr, ou) (nI (112 * s + (h + K s (h + 1) - cz_ s))) (nI n) gt := fun z hz post KK => y_a16 h7 hw (by omega) o16 (y_rsK c5 yi' (by omega) f3 (by omega) u5 hz KK)
      rcases w4 hxs with ⟨v1, v2, v3, v4⟩ | hSu
      · have xC1 := xC 1 (Or.inl ⟨v1, rfl⟩)
        have yC1 := yC 1 (Or.inl ⟨v2, rfl⟩)
        by_cases hV7 : V + p ≤ 120
        · rcases Nat.lt_or_ge q fu with hqf | hqf
          · have h4 := cc_res (m := 0) h3 hSs (show 1 ≤ t by omega) (show t ≤ C by omega) hxs (fun j hj => by omega)
            have hp01 : p = 0 ∨ p = 1 := by omega
            rcases hp01 with hp0 | hp0
            · subst hp0
              obtain ⟨s1, s2, s3, j, r1, r2, r3, r4⟩ := res_go (t := t) (g := g') (e := e') (q0 := 0) (d := 0) (φ := φ) (φ' := φ1) (q := q) (w := w) (fu := fu) (ec := ec) (en := en) (ft := ft) (cr := cr) (gv := gv) (gt := gt) (pv := pv) (ou := ou) (xN := xN) (xL := xL) (xp := xp) (xl := xl) (xo := xo) (yN := yN) (yi := yi) (yo := yo) (yp := yp) ht hyp (by omega) h4 u1 u2 f6 (by omega) u3 u8 (fun r hr => by omega) v1 v2 v3 v4 (by omega) (by omega) hqf hk1
              obtain ⟨φ3, t1, t2⟩ := r4
              exact sA_ap ht hyp h1 g1 g2 g3 g4 g5 g6 g7 g8 g9 g10 g11 g12 g13 g14 g15 hn hT b1 b2 b3 b4 b5 b6 hk hv hD (by omega) (fun post KK => xC1 post (x_rs1 (by omega) u4 (by omega) f6 (by omega) hV7 (x_rsG (by omega) (by omega) hqf (x_enter (by omega) u4 u6 ⟨1, x_e18_0 (by omega) f6 (r1 post KK)⟩)))) r2 (fun post KK => yC1 post (y_rs1 (by omega) hys (by omega) f6 (by omega) hV7 (y_rsG0 (by omega) (by omega) hqf f3 (by omega) u7 (by omega) f6 (r3 post KK)))) ⟨φ3, by omega, t2⟩
            · subst hp0
              have h5 := cc_var (m := a g') (fS' := fS) (fT' := upd fT (s * 128 + h) (nI (1 + 1))) (ya' := ya) (ye' := ye) (e := e') (x := cr) (y := gt) ht h4 (by have := h1.2.1 t; omega) (by omega) (by omega) u3 hv ca_r ca_r ca_r ca_r
              obtain ⟨s1, s2, s3, j, r1, r2, r3, r4⟩ := res_go (t := t) (g := g') (e := V + 1) (q0 := 1) (d := 0) (φ := φ) (φ' := φ1) (q := q) (w := w) (fu := fu) (ec := ec) (en := en) (ft := ft) (cr := cr) (gv := gv) (gt := gt) (pv := pv) (ou := ou) (xN := xN) (xL := xL) (xp := xp) (xl := xl) (xo := xo) (yN := yN) (yi := yi) (yo := yo) (yp := yp) ht hyp (by omega) h5 u1 u2 f6 (by omega) (Nat.le_refl _) (fun c hc => cd_D_new.mpr (Or.inr (u8 c hc))) (fun r hr => by
                obtain rfl : r = 0 := by omega
                exact cd_D_new.mpr (Or.inl (Int32.add_zero _).symm)) v1 v2 v3 v4 (by omega) (by omega) hqf hk1
              obtain ⟨φ3, t1, t2⟩ := r4
              have e5 : vp_updL fL ((s * 128 + h) * 4 + 1) cr ((s * 128 + h) * 4 + 1) = cr := pk_uLs
              refine sA_ap ht hyp h1 g1 g2 g3 g4 g5 g6 g7 g8 g9 g10 g11 g12 g13 g14 g15 hn hT b1 b2 b3 b4 b5 b6 hk hv hD (by omega) (fun post KK => xC1 post (x_rs1 (by omega) u4 (by omega) f6 (by omega) hV7 (x_rsG (by omega) (by omega) hqf (x_enter (by omega) u4 u6 ⟨2, x_e18_1 (by omega) (by omega) f6 (by omega) ?_⟩)))) r2 (fun post KK => yC1 post (y_rs1 (by omega) hys (by omega) f6 (by omega) hV7 (y_rsG1 (by omega) (by omega) hqf f3 (by omega) u7 (by omega) f6 (by omega) ?_))) ⟨φ3, by omega, t2⟩
              · rw [e5]; exact r1 post KK
              · have := r3 post KK
                rw [nI_pred] at this
                exact this
          · obtain rfl : q = fu := by have := hk.1.1; omega
            exact sA_ap ht hyp h1 g1 g2 g3 g4 g5 g6 g7 g8 g9 g10 g11 g12 g13 g14 g15 hn hT b1 b2 b3 b4 b5 b6 hk hv hD (by omega) (fun post KK => xC1 post (x_rs1 (by omega) u4 (by omega) f6 (by omega) hV7 (x_rsE (by omega) KK))) (xs_0 _) (fun post KK => yC1 post (y_rs1 (by omega) hys (by omega) f6 (by omega) hV7 (y_rsE KK))) (cr_fuel hF4 hC6 hk (by omega))
        · exact sA_raise ht hyp h1 g1 g2 g3 g4 g5 g6 g7 g8 g9 g10 g11 g12 g13 g14 g15 hn hT b1 b2 b3 b4 b5 b6 hk hv hD (by omega) 7 (fun post KK => xC1 post (x_rs7 (by omega) u4 (by omega) f6 (by omega) (by omega) (by omega) KK)) (fun post KK => yC1 post (y_rs7 (by omega) hys (by omega) f6 (by omega) (by omega) (by omega) KK))
      · have hSu' := hSu
        obtain ⟨x1, ⟨x2, x3, x4, x5, x6⟩, ⟨x7, x8, x9, x10⟩, n', x11, x12, x13⟩ := hSu'
        have x0 : ¬ xh t = 0 := by rw [x7]; exact nI_ne0 (by omega) (by have := cf_h ht x1 (by omega); omega)
        have x8' : yt t = nI (H t + K t (H t) - cz_ t + 1) := by rw [x8]; exact congrArg nI (by omega)
        have y0 : ¬ yt t = 0 := by rw [x8']; exact nI_ne0 (by omega) (by omega)
        have xC0 := xC 0 (Or.inr ⟨x0, rfl⟩)
        have yC0 := yC 0 (Or.inr ⟨y0, rfl⟩)
        have hts : t ≠ s := by
          intro hts
          subst hts
          have hk1' : 1 ≤ k := by
            rcases Nat.eq_zero_or_pos k with hz | hz
            · have e1 := h1.1.2.2.2.2.2
              have e2 := h1.2.2.2.2.1.1
              rw [hz] at e1; omega
            · exact hz
          have := (h1.2.2.2.2.1.2.2.1 k hk1' (Nat.le_refl _)).2.2
          rw [h1.1.2.2.2.2.2, hxs] at this
          exact absurd this (by decide)
        rcases Nat.lt_or_ge q fu with hqf | hqf
        · have h4 := cc_res (m := H t) h3 hSs (show 1 ≤ t by omega) (show t ≤ C by omega) hxs x1
          have hk2 : (cr_K (φ1 - 400) fu (q + 1) w F C (ch_ P s (T s h + 2)) pv ou) := ⟨⟨by omega, hfu, by have := hk1.1.2.2.1; omega, by have := hk1.1.2.2.2; omega⟩, hk1.2⟩
          have hφ9 : 400 ≤ φ1 := by have := hk1.1.2.2.1; omega
          have hn96 : op n' = nI (oc n') := ct_op ht x11 rfl
          have e5 : vp_updL fL ((s * 128 + h) * 4 + 1) cr ((s * 128 + h) * 4 + 1) = cr := pk_uLs
          obtain ⟨φ3, t1, t2⟩ := cr_pop (s := t) (h := H t) (d := 0) (φ := φ1 - 400) (q := q + 1) (cr := cr) (gt := gt) (ec := ec) (en := en) (ft := ft) (gv := gv) (xN := xN) (xL := xL) (xp := xp) (xl := xl) (xo := xo) (yN := yN) (yi := yi) (yo := yo) (yp := yp) ht h4 x2 x9 x10 (fun _ => by rw [cz_1 (show 1 ≤ t by omega)] at x3; exact x3) hk2 (by omega) hv
          have hno : oc n' ≤ 21 := (ht.2.2.2.2 n' x11).1.1
          refine sA_ap ht hyp h1 g1 g2 g3 g4 g5 g6 g7 g8 g9 g10 g11 g12 g13 g14 g15 hn hT b1 b2 b3 b4 b5 b6 hk hv hD (by omega) (fun post KK => xC0 post (x_rs0 (x_rsF (by omega) (by omega) (by omega) hqf x7 (by rw [e5]; exact KK)))) (xs_0 _) (fun post KK => yC0 post (y_rs0 (by omega) hys (y_rsF (by omega) (by omega) hqf (y_finish (by omega) x8' (by omega) x13 (by omega) hn96 hno x12 KK)))) ⟨φ3, by omega, t2⟩
        · obtain rfl : q = fu := by have := hk.1.1; omega
          exact sA_ap ht hyp h1 g1 g2 g3 g4 g5 g6 g7 g8 g9 g10 g11 g12 g13 g14 g15 hn hT b1 b2 b3 b4 b5 b6 hk hv hD (by omega) (fun post KK => xC0 post (x_rs0 (x_rsE (by omega) KK))) (xs_0 _) (fun post KK => yC0 post (y_rs0 (by omega) hys (y_rsE KK))) (cr_fuel hF4 hC6 hk (by omega))
    · have yz : ∃ z : Int32, (yt t = 0 ∧ z = 1) ∨ (¬ yt t = 0 ∧ z = 0) := by
        by_cases h0 : yt t = 0
        · exact ⟨1, Or.inl ⟨h0, rfl⟩⟩
        · exact ⟨0, Or.inr ⟨h0, rfl⟩⟩
      obtain ⟨z, hz⟩ := yz
      exact sA_raise ht hyp h1 g1 g2 g3 g4 g5 g6 g7 g8 g9 g10 g11 g12 g13 g14 g15 hn hT b1 b2 b3 b4 b5 b6 hk hv hD (by omega) 5 (fun post KK => x_c16 h7 (by omega) g5 (by omega) o16 (by rw [e0]; exact x_rs5 (by omega) g5 xi (by omega) w2 hw0 (by omega) c4 KK)) (fun post KK => y_a16 h7 hw (by omega) o16 (y_rsK c5 yi' (by omega) f3 (by omega) u5 hz (y_rs5 (by omega) w3 hw0 (by omega) KK)))
  · exact sA_raise ht hyp h1 g1 g2 g3 g4 g5 g6 g7 g8 g9 g10 g11 g12 g13 g14 g15 hn hT b1 b2 b3 b4 b5 b6 hk hv hD (by omega) 2 (fun post KK => x_c16 h7 (by omega) g5 (by omega) o16 (by rw [e0]; exact x_rsA (by omega) g5 c1 c2 KK)) (fun post KK => y_a16 h7 hw (by omega) o16 (y_rsA c3 KK))
end
