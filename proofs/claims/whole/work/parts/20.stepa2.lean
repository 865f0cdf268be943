section
variable {xd xg xN xL xF xV xC xs ph : Int32} {cr : Int64} {ec en ft bt pr : Int32} {op a b xp fi xl nx xo fn fe vn vo : Nat → Int32} {vv : Nat → Int64} {xst xf xr xh xc fN fX fS fT : Nat → Int32} {fL pv : Nat → Int64}
variable {post : SX → Prop}
theorem x_del0 {s r h : Nat} (h0 : 1 ≤ s) (hs : s < 7) (hr : r < 7) (hz : xh s = nI 0) (hx : xr s = nI r) (hh : xh r = nI (h + 1)) (K : post (xd, xg, xN, xL, xF, xV, xC, (nI r), (-2), cr, ec, en, ft, bt, pr, op, a, b, xp, fi, xl, nx, xo, fn, fe, vn, vo, vv, (upd xst s 2), xf, xr, (upd xh r (nI h)), xc, fN, fX, fS, fT, fL, pv)) : wpX_deliver post (xd, xg, xN, xL, xF, xV, xC, (nI s), ph, cr, ec, en, ft, bt, pr, op, a, b, xp, fi, xl, nx, xo, fn, fe, vn, vo, vv, xst, xf, xr, xh, xc, fN, fX, fS, fT, fL, pv) := by
  have e := nc_ (n := s) (by omega)
  have w := vi_ (n := s) (N := 7) hs (by omega)
  exact ⟨w, br_t (by rw [e, hz]; decide) (br_f (nI_ne0 (by omega) (by omega)) ⟨w, nm_r (e' := upd xst s 2) (by rw [e]) (x_hb hs hr hx hh K)⟩)⟩
theorem x_delM (hz : xh 0 = nI 0) (K : post (xd, xg, xN, xL, xF, xV, xC, (nI 0), 0, cr, ec, en, ft, bt, pr, op, a, b, xp, fi, xl, nx, xo, fn, fe, vn, vo, vv, xst, xf, xr, xh, xc, fN, fX, fS, fT, fL, pv)) : wpX_deliver post (xd, xg, xN, xL, xF, xV, xC, (nI 0), ph, cr, ec, en, ft, bt, pr, op, a, b, xp, fi, xl, nx, xo, fn, fe, vn, vo, vv, xst, xf, xr, xh, xc, fN, fX, fS, fT, fL, pv) := by
  have w := vi_ (n := 0) (N := 7) (by omega) (by omega)
  exact ⟨w, br_t (by rw [nc_ (by omega), hz]; decide) (br_t rfl K)⟩
end
section
variable {op a b fi nx pa : Nat → Int32} {N : Nat} {oc pc E lv : Nat → Nat} {kd : Nat → Nat → Nat} {SC : Nat → Int32 → Prop}
variable {F C V : Nat} {D : Nat → Int32 → Prop} {K T : Nat → Nat → Nat} {fN fX fS fT : Nat → Int32} {fL : Nat → Int64} {yl ya ye : Nat → Int32} {yk : Nat → Int64} {P H : Nat → Nat} {dep : Nat} {xh xc yt yc fn fe gn ge vn vo : Nat → Int32} {vv : Nat → Int64} {wn wu : Nat → Int32} {wv : Nat → Int64} {xst xf xr yst yf yr : Nat → Int32} {Q : Nat → Nat} {k s h : Nat}
variable {fu : Nat} {xN xL : Int32} {xp xl xo : Nat → Int32} {yN yi yo : Int32} {yp : Nat → Int32}
variable {ph ec en ft : Int32} {cr gv gt : Int64} {q w φ : Nat} {pv ou : Nat → Int64} {hs : Int32}
theorem sA_if1 {n i e : Nat} (ht : (ct_all op a b fi nx pa N oc pc E lv kd SC)) (hyp : ∀ n, n < N → xp n = nI (pc n) ∧ yp n = nI (pc n)) (h1 : (cc_C N oc pc E lv kd a b SC F C V D K T fN fX fS fT fL yl ya ye yk P H dep xh xc yt yc fn fe gn ge vn vo vv wn wu wv xst xf xr yst yf yr Q k s h)) (g1 : n < N) (g2 : oc n < 19) (g3 : i < pc n) (g4 : e ≤ V) (g5 : fN (s * 128 + h) = nI n) (g6 : fT (s * 128 + h) = nI (ct_tk (oc n) i)) (g7 : fS (s * 128 + h) = nI e) (g8 : yl (112 * s + (h + K s (h + 1) - cz_ s)) = nI n) (g9 : ya (112 * s + (h + K s (h + 1) - cz_ s)) = nI i) (g10 : ye (112 * s + (h + K s (h + 1) - cz_ s)) = nI e - 1) (g11 : ∀ c, ct_in oc a b SC n i c → D e c) (g12 : cf_S F C (oc n) i (fun q => fL ((s * 128 + h) * 4 + q)) (fun q => yk (3 * (112 * s + (h + K s (h + 1) - cz_ s)) + q))) (g13 : K s (h + 1) = K s h + (if oc n = 10 then 1 else 0)) (g14 : cz_ s ≤ K s (h + 1)) (g15 : h + 1 + K s (h + 1) ≤ 16 * K s (h + 1) + lv n + cz_ s) (hn : fX (s * 128 + h) = ct_nx pc kd n (i + 1)) (hT : T s h + 4 * (E n - E (kd n i)) + 3 ≤ T s (h + 1)) (b1 : K s (h + 1) ≤ dep) (b2 : T s (h + 1) + 2 ≤ P s) (b3 : xh s = nI (h + 1)) (b4 : yt s = nI (h + 1 + K s (h + 1) - cz_ s)) (b5 : xc s = nI (K s (h + 1))) (b6 : yc s = nI (K s (h + 1))) (hk : (cr_K φ fu q w F C P pv ou)) (hv : cv_R F C cr gt) (hd : oc n = 5) (h0 : 0 < i) : ∃ u2 v2 kx, xs_ (kx + 1) ((nI dep), (nI fu), xN, xL, (nI F), (nI V), (nI C), (nI s), (-2), cr, ec, en, ft, (nI q), (nI w), op, a, b, xp, fi, xl, nx, xo, fn, fe, vn, vo, vv, xst, xf, xr, xh, xc, fN, fX, fS, fT, fL, pv) u2 ∧ (∀ post : SY → Prop, post v2 → wpY_deliver post ((nI dep), (nI fu), yN, yi, yo, (nI V), (nI F), (nI C), (nI s), ft, (nI q), 0, 0, (-1), (nI w), 1, 0, gv, gt, op, a, b, pa, fi, nx, yp, wn, wu, gn, ge, wv, yl, ya, ye, yk, yt, yc, yst, yf, yr, ou) gt) ∧ cr_T op a b fi nx pa N oc pc E lv kd SC dep fu xN xL xp xl xo yN yi yo yp φ (kx + 1) u2 v2 := by
  have h7 := (cc_s h1).2
  have h6 := cc_dep h1
  have hKK : K s h ≤ K s (h + 1) := by omega
  have hh := cf_h ht (cc_FR h1) (by omega)
  have hN := ht.2.1
  have hl := (ht.2.2.2.2 n g1).2.2.2.1.2 (by omega)
  have hzl := cz_le s
  have hw : h + K s (h + 1) - cz_ s < 112 := by omega
  have o_ : op n = nI (oc n) := ct_op ht g1 rfl
  have b4' : yt s = nI (h + K s (h + 1) - cz_ s + 1) := by rw [b4]; exact congrArg nI (by omega)
  have hpn := (ht.2.2.2.2 n g1).1.2.2.2
  have yp_ := (hyp n g1).2
  have hEn := ct_E ht g1
  have hkd := (ht.2.2.2.2 n g1).2.2.2.2.2.1
  have h10 : oc n ≠ 10 := by omega
  have hK0 : K s (h + 1) = K s h := by rw [g13, if_neg h10]; rfl
  have b4p : yt s = nI (h + K s h - cz_ s + 1) := by rw [← hK0]; exact b4'
  have g8p : yl (112 * s + (h + K s h - cz_ s)) = nI n := by rw [← hK0]; exact g8
  have b1p : K s h ≤ dep := by omega
  have b5p : xc s = nI (K s h) := by rw [← hK0]; exact b5
  have b6p : yc s = nI (K s h) := by rw [← hK0]; exact b6
  have hwp : h + K s h - cz_ s < 112 := by omega
  have hsh : 1 ≤ s → 1 ≤ h := fun hs1 => by
    have z1 := cz_1 hs1
    rcases Nat.eq_zero_or_pos h with hz | hz
    · subst hz
      have := h1.2.1 s
      omega
    · exact hz
  have g6' : fT (s * 128 + h) = nI 1 := by rw [g6, hd]; unfold ct_tk; rw [if_pos rfl, if_neg (by omega)]
  have h2 : (cc_C N oc pc E lv kd a b SC F C V D K T fN (upd fX (s * 128 + h) (-1)) fS (upd fT (s * 128 + h) (nI (1 + 1))) (vp_updL fL ((s * 128 + h) * 4) cr) yl ya ye yk P H dep xh xc yt yc fn fe gn ge vn vo vv wn wu wv xst xf xr yst yf yr Q k s h) := cc_fr ht h1 (by omega) (by omega) (fun _ _ _ => rfl) (fun _ _ _ => rfl) ca_r (ca_u ca_r (by omega) (by omega)) ca_r (ca_u ca_r (by omega) (by omega)) (ca_l ca_r (by omega) (by omega)) ca_r ca_r ca_r ca_r ca_r ca_r ca_r ca_r ca_r
  have tY : ∀ post : SY → Prop, wpY_finish post ((nI dep), (nI fu), yN, yi, yo, (nI V), (nI F), (nI C), (nI s), ft, (nI q), 0, 0, (-1), (nI w), 1, 0, gv, gt, op, a, b, pa, fi, nx, yp, wn, wu, gn, ge, wv, yl, ya, ye, yk, yt, yc, yst, yf, yr, ou) gt → wpY_deliver post ((nI dep), (nI fu), yN, yi, yo, (nI V), (nI F), (nI C), (nI s), ft, (nI q), 0, 0, (-1), (nI w), 1, 0, gv, gt, op, a, b, pa, fi, nx, yp, wn, wu, gn, ge, wv, yl, ya, ye, yk, yt, yc, yst, yf, yr, ou) gt := by
    intro post K
    by_cases hz : i + 1 = pc n
    · exact y_5c1 h7 b4' hw g8 (by omega) g9 yp_ (by omega) (by omega) o_ hz hd h0 K
    · exact y_5c0 h7 b4' hw g8 (by omega) g9 yp_ (by omega) (by omega) o_ hz hd h0 K
  refine ⟨_, _, 1, xs_t (xs_d (fun post K => x_del h7 (by omega) b3 (x_take5 h7 (by omega) b3 g5 (by omega) o_ (by omega) g6' hd (x_if1 (by omega) (by omega) (by omega) K)))) (xs_a (fun post K => x_adv1 h7 b3 (by omega) pk_us (x_c5 h7 (by omega) g5 (by omega) (o_.trans (by rw [hd]; rfl)) (x_finish h7 b3 K)))), fun post K => tY post (y_finish h7 b4p hwp g8p (by omega) o_ (by omega) h10 K), ?_⟩
  rw [pk_uLs]
  exact cr_pop ht h2 b1p b5p b6p hsh hk (by omega) hv
theorem sA_seqn {n i e : Nat} (ht : (ct_all op a b fi nx pa N oc pc E lv kd SC)) (hyp : ∀ n, n < N → xp n = nI (pc n) ∧ yp n = nI (pc n)) (h1 : (cc_C N oc pc E lv kd a b SC F C V D K T fN fX fS fT fL yl ya ye yk P H dep xh xc yt yc fn fe gn ge vn vo vv wn wu wv xst xf xr yst yf yr Q k s h)) (g1 : n < N) (g2 : oc n < 19) (g3 : i < pc n) (g4 : e ≤ V) (g5 : fN (s * 128 + h) = nI n) (g6 : fT (s * 128 + h) = nI (ct_tk (oc n) i)) (g7 : fS (s * 128 + h) = nI e) (g8 : yl (112 * s + (h + K s (h + 1) - cz_ s)) = nI n) (g9 : ya (112 * s + (h + K s (h + 1) - cz_ s)) = nI i) (g10 : ye (112 * s + (h + K s (h + 1) - cz_ s)) = nI e - 1) (g11 : ∀ c, ct_in oc a b SC n i c → D e c) (g12 : cf_S F C (oc n) i (fun q => fL ((s * 128 + h) * 4 + q)) (fun q => yk (3 * (112 * s + (h + K s (h + 1) - cz_ s)) + q))) (g13 : K s (h + 1) = K s h + (if oc n = 10 then 1 else 0)) (g14 : cz_ s ≤ K s (h + 1)) (g15 : h + 1 + K s (h + 1) ≤ 16 * K s (h + 1) + lv n + cz_ s) (hn : fX (s * 128 + h) = ct_nx pc kd n (i + 1)) (hT : T s h + 4 * (E n - E (kd n i)) + 3 ≤ T s (h + 1)) (b1 : K s (h + 1) ≤ dep) (b2 : T s (h + 1) + 2 ≤ P s) (b3 : xh s = nI (h + 1)) (b4 : yt s = nI (h + 1 + K s (h + 1) - cz_ s)) (b5 : xc s = nI (K s (h + 1))) (b6 : yc s = nI (K s (h + 1))) (hk : (cr_K φ fu q w F C P pv ou)) (hv : cv_R F C cr gt) (hd : oc n = 6 ∨ oc n = 10) (hlt : i + 1 < pc n) : ∃ u2 v2 kx, xs_ (kx + 1) ((nI dep), (nI fu), xN, xL, (nI F), (nI V), (nI C), (nI s), (-2), cr, ec, en, ft, (nI q), (nI w), op, a, b, xp, fi, xl, nx, xo, fn, fe, vn, vo, vv, xst, xf, xr, xh, xc, fN, fX, fS, fT, fL, pv) u2 ∧ (∀ post : SY → Prop, post v2 → wpY_deliver post ((nI dep), (nI fu), yN, yi, yo, (nI V), (nI F), (nI C), (nI s), ft, (nI q), 0, 0, (-1), (nI w), 1, 0, gv, gt, op, a, b, pa, fi, nx, yp, wn, wu, gn, ge, wv, yl, ya, ye, yk, yt, yc, yst, yf, yr, ou) gt) ∧ cr_T op a b fi nx pa N oc pc E lv kd SC dep fu xN xL xp xl xo yN yi yo yp φ (kx + 1) u2 v2 := by
  have h7 := (cc_s h1).2
  have h6 := cc_dep h1
  have hKK : K s h ≤ K s (h + 1) := by omega
  have hh := cf_h ht (cc_FR h1) (by omega)
  have hN := ht.2.1
  have hl := (ht.2.2.2.2 n g1).2.2.2.1.2 (by omega)
  have hzl := cz_le s
  have hw : h + K s (h + 1) - cz_ s < 112 := by omega
  have o_ : op n = nI (oc n) := ct_op ht g1 rfl
  have b4' : yt s = nI (h + K s (h + 1) - cz_ s + 1) := by rw [b4]; exact congrArg nI (by omega)
  have hpn := (ht.2.2.2.2 n g1).1.2.2.2
  have yp_ := (hyp n g1).2
  have hEn := ct_E ht g1
  have hkd := (ht.2.2.2.2 n g1).2.2.2.2.2.1
  have h5 : ct_tk (oc n) i = i := ct_tkn (by omega)
  have k1 := hkd i g3
  have k2 := hkd (i + 1) hlt
  have k5 := (k1.2.2.2.2.1 hlt).2.1
  have k4 := ((ht.2.2.2.2 n g1).2.2.2.2.2.2 trivial).2.2.2 (i + 1) hlt
  have k3 := ct_E ht k2.2.1
  rw [h5] at g6
  obtain ⟨φ', hφ, hk'⟩ := cr_P (P' := ch_ P s (T s h + 4 * (E n - kd n (i + 1)) + 3)) (d := 1) hk h7 rfl (by omega)
  have h2 : (cc_C N oc pc E lv kd a b SC F C V D K T fN fX fS (upd fT (s * 128 + h) (nI (i + 1))) (vp_updL fL ((s * 128 + h) * 4) cr) yl (upd ya (112 * s + (h + K s (h + 1) - cz_ s)) (nI (i + 1))) ye yk P H dep xh xc yt yc fn fe gn ge vn vo vv wn wu wv xst xf xr yst yf yr Q k s h) := cc_fr ht h1 (by omega) (by omega) (fun _ _ _ => rfl) (fun _ _ _ => rfl) ca_r ca_r ca_r (ca_u ca_r (by omega) (by omega)) (ca_l ca_r (by omega) (by omega)) ca_r (ca_u ca_r (by omega) (by omega)) ca_r ca_r ca_r ca_r ca_r ca_r ca_r
  have tX : ∀ post : SX → Prop, post ((nI dep), (nI fu), xN, xL, (nI F), (nI V), (nI C), (nI s), (-1), cr, ec, en, ft, (nI q), (nI w), op, a, b, xp, fi, xl, nx, xo, fn, fe, vn, vo, vv, xst, xf, xr, xh, xc, fN, fX, fS, (upd fT (s * 128 + h) (nI (i + 1))), (vp_updL fL ((s * 128 + h) * 4) cr), pv) → wpX_take post ((nI dep), (nI fu), xN, xL, (nI F), (nI V), (nI C), (nI s), (-1), cr, ec, en, ft, (nI q), (nI w), op, a, b, xp, fi, xl, nx, xo, fn, fe, vn, vo, vv, xst, xf, xr, xh, xc, fN, fX, fS, fT, fL, pv) := by
    intro post K
    rcases hd with hd | hd
    · exact x_take6 h7 (by omega) b3 g5 (by omega) o_ (by omega) g6 hd K
    · exact x_take10 h7 (by omega) b3 g5 (by omega) o_ (by omega) g6 hd K
  have tY : ∀ post : SY → Prop, post ((nI dep), (nI fu), yN, yi, yo, (nI V), (nI F), (nI C), (nI s), ft, (nI q), 0, 0, (-1), (nI w), 1, 0, gv, gt, op, a, b, pa, fi, nx, yp, wn, wu, gn, ge, wv, yl, (upd ya (112 * s + (h + K s (h + 1) - cz_ s)) (nI (i + 1))), ye, yk, yt, yc, yst, yf, yr, ou) → wpY_deliver post ((nI dep), (nI fu), yN, yi, yo, (nI V), (nI F), (nI C), (nI s), ft, (nI q), 0, 0, (-1), (nI w), 1, 0, gv, gt, op, a, b, pa, fi, nx, yp, wn, wu, gn, ge, wv, yl, ya, ye, yk, yt, yc, yst, yf, yr, ou) gt := by
    intro post K
    rcases hd with hd | hd
    · exact y_6n h7 b4' hw g8 (by omega) g9 yp_ (by omega) (by omega) o_ (by omega) hd K
    · exact y_10n h7 b4' hw g8 (by omega) g9 yp_ (by omega) (by omega) o_ (by omega) hd K
  refine ⟨_, _, 0, xs_d (fun post K => x_del h7 (by omega) b3 (tX post K)), fun post K => tY post K, cr_rdy ht h2 g1 g2 hlt g4 g5 ?_ g7 g8 pk_us g10 (fun c hc => g11 c (ct_inS hc (by omega))) ?_ g13 g14 g15 (hn.trans (ct_nxl hlt)) b1 b3 b4 b5 b6 hφ hk'⟩
  · rw [pk_us, ct_tkn (by omega)]
  · exact ⟨fun h => by omega, fun h => by omega⟩
theorem sA_seql {n i e : Nat} (ht : (ct_all op a b fi nx pa N oc pc E lv kd SC)) (hyp : ∀ n, n < N → xp n = nI (pc n) ∧ yp n = nI (pc n)) (h1 : (cc_C N oc pc E lv kd a b SC F C V D K T fN fX fS fT fL yl ya ye yk P H dep xh xc yt yc fn fe gn ge vn vo vv wn wu wv xst xf xr yst yf yr Q k s h)) (g1 : n < N) (g2 : oc n < 19) (g3 : i < pc n) (g4 : e ≤ V) (g5 : fN (s * 128 + h) = nI n) (g6 : fT (s * 128 + h) = nI (ct_tk (oc n) i)) (g7 : fS (s * 128 + h) = nI e) (g8 : yl (112 * s + (h + K s (h + 1) - cz_ s)) = nI n) (g9 : ya (112 * s + (h + K s (h + 1) - cz_ s)) = nI i) (g10 : ye (112 * s + (h + K s (h + 1) - cz_ s)) = nI e - 1) (g11 : ∀ c, ct_in oc a b SC n i c → D e c) (g12 : cf_S F C (oc n) i (fun q => fL ((s * 128 + h) * 4 + q)) (fun q => yk (3 * (112 * s + (h + K s (h + 1) - cz_ s)) + q))) (g13 : K s (h + 1) = K s h + (if oc n = 10 then 1 else 0)) (g14 : cz_ s ≤ K s (h + 1)) (g15 : h + 1 + K s (h + 1) ≤ 16 * K s (h + 1) + lv n + cz_ s) (hn : fX (s * 128 + h) = ct_nx pc kd n (i + 1)) (hT : T s h + 4 * (E n - E (kd n i)) + 3 ≤ T s (h + 1)) (b1 : K s (h + 1) ≤ dep) (b2 : T s (h + 1) + 2 ≤ P s) (b3 : xh s = nI (h + 1)) (b4 : yt s = nI (h + 1 + K s (h + 1) - cz_ s)) (b5 : xc s = nI (K s (h + 1))) (b6 : yc s = nI (K s (h + 1))) (hk : (cr_K φ fu q w F C P pv ou)) (hv : cv_R F C cr gt) (hd : oc n = 6) (hlt : i + 1 = pc n) : ∃ u2 v2 kx, xs_ (kx + 1) ((nI dep), (nI fu), xN, xL, (nI F), (nI V), (nI C), (nI s), (-2), cr, ec, en, ft, (nI q), (nI w), op, a, b, xp, fi, xl, nx, xo, fn, fe, vn, vo, vv, xst, xf, xr, xh, xc, fN, fX, fS, fT, fL, pv) u2 ∧ (∀ post : SY → Prop, post v2 → wpY_deliver post ((nI dep), (nI fu), yN, yi, yo, (nI V), (nI F), (nI C), (nI s), ft, (nI q), 0, 0, (-1), (nI w), 1, 0, gv, gt, op, a, b, pa, fi, nx, yp, wn, wu, gn, ge, wv, yl, ya, ye, yk, yt, yc, yst, yf, yr, ou) gt) ∧ cr_T op a b fi nx pa N oc pc E lv kd SC dep fu xN xL xp xl xo yN yi yo yp φ (kx + 1) u2 v2 := by
  have h7 := (cc_s h1).2
  have h6 := cc_dep h1
  have hKK : K s h ≤ K s (h + 1) := by omega
  have hh := cf_h ht (cc_FR h1) (by omega)
  have hN := ht.2.1
  have hl := (ht.2.2.2.2 n g1).2.2.2.1.2 (by omega)
  have hzl := cz_le s
  have hw : h + K s (h + 1) - cz_ s < 112 := by omega
  have o_ : op n = nI (oc n) := ct_op ht g1 rfl
  have b4' : yt s = nI (h + K s (h + 1) - cz_ s + 1) := by rw [b4]; exact congrArg nI (by omega)
  have hpn := (ht.2.2.2.2 n g1).1.2.2.2
  have yp_ := (hyp n g1).2
  have hEn := ct_E ht g1
  have hkd := (ht.2.2.2.2 n g1).2.2.2.2.2.1
  have h10 : oc n ≠ 10 := by omega
  have hK0 : K s (h + 1) = K s h := by rw [g13, if_neg h10]; rfl
  have b4p : yt s = nI (h + K s h - cz_ s + 1) := by rw [← hK0]; exact b4'
  have g8p : yl (112 * s + (h + K s h - cz_ s)) = nI n := by rw [← hK0]; exact g8
  have b1p : K s h ≤ dep := by omega
  have b5p : xc s = nI (K s h) := by rw [← hK0]; exact b5
  have b6p : yc s = nI (K s h) := by rw [← hK0]; exact b6
  have hwp : h + K s h - cz_ s < 112 := by omega
  have hsh : 1 ≤ s → 1 ≤ h := fun hs1 => by
    have z1 := cz_1 hs1
    rcases Nat.eq_zero_or_pos h with hz | hz
    · subst hz
      have := h1.2.1 s
      omega
    · exact hz
  have h5 : ct_tk (oc n) i = i := ct_tkn (by omega)
  rw [h5] at g6
  have h2 : (cc_C N oc pc E lv kd a b SC F C V D K T fN fX fS (upd fT (s * 128 + h) (nI (i + 1))) (vp_updL fL ((s * 128 + h) * 4) cr) yl (upd ya (112 * s + (h + K s (h + 1) - cz_ s)) (nI (i + 1))) ye yk P H dep xh xc yt yc fn fe gn ge vn vo vv wn wu wv xst xf xr yst yf yr Q k s h) := cc_fr ht h1 (by omega) (by omega) (fun _ _ _ => rfl) (fun _ _ _ => rfl) ca_r ca_r ca_r (ca_u ca_r (by omega) (by omega)) (ca_l ca_r (by omega) (by omega)) ca_r (ca_u ca_r (by omega) (by omega)) ca_r ca_r ca_r ca_r ca_r ca_r ca_r
  refine ⟨_, _, 1, xs_t (xs_d (fun post K => x_del h7 (by omega) b3 (x_take6 h7 (by omega) b3 g5 (by omega) o_ (by omega) g6 hd K))) (xs_a (fun post K => x_adv1 h7 b3 (by omega) (hn.trans (ct_nxe (by omega))) (x_con6 h7 b3 (by omega) g5 (by omega) (o_.trans (by rw [hd]; rfl)) K))), fun post K => y_6l h7 b4' hw g8 (by omega) g9 yp_ (by omega) (by omega) o_ hlt hd (y_finish h7 b4p hwp g8p (by omega) o_ (by omega) h10 K), ?_⟩
  rw [pk_uLs]
  exact cr_pop ht h2 b1p b5p b6p hsh hk (by omega) hv
theorem sA_while {n i e : Nat} (ht : (ct_all op a b fi nx pa N oc pc E lv kd SC)) (hyp : ∀ n, n < N → xp n = nI (pc n) ∧ yp n = nI (pc n)) (h1 : (cc_C N oc pc E lv kd a b SC F C V D K T fN fX fS fT fL yl ya ye yk P H dep xh xc yt yc fn fe gn ge vn vo vv wn wu wv xst xf xr yst yf yr Q k s h)) (g1 : n < N) (g2 : oc n < 19) (g3 : i < pc n) (g4 : e ≤ V) (g5 : fN (s * 128 + h) = nI n) (g6 : fT (s * 128 + h) = nI (ct_tk (oc n) i)) (g7 : fS (s * 128 + h) = nI e) (g8 : yl (112 * s + (h + K s (h + 1) - cz_ s)) = nI n) (g9 : ya (112 * s + (h + K s (h + 1) - cz_ s)) = nI i) (g10 : ye (112 * s + (h + K s (h + 1) - cz_ s)) = nI e - 1) (g11 : ∀ c, ct_in oc a b SC n i c → D e c) (g12 : cf_S F C (oc n) i (fun q => fL ((s * 128 + h) * 4 + q)) (fun q => yk (3 * (112 * s + (h + K s (h + 1) - cz_ s)) + q))) (g13 : K s (h + 1) = K s h + (if oc n = 10 then 1 else 0)) (g14 : cz_ s ≤ K s (h + 1)) (g15 : h + 1 + K s (h + 1) ≤ 16 * K s (h + 1) + lv n + cz_ s) (hn : fX (s * 128 + h) = ct_nx pc kd n (i + 1)) (hT : T s h + 4 * (E n - E (kd n i)) + 3 ≤ T s (h + 1)) (b1 : K s (h + 1) ≤ dep) (b2 : T s (h + 1) + 2 ≤ P s) (b3 : xh s = nI (h + 1)) (b4 : yt s = nI (h + 1 + K s (h + 1) - cz_ s)) (b5 : xc s = nI (K s (h + 1))) (b6 : yc s = nI (K s (h + 1))) (hk : (cr_K φ fu q w F C P pv ou)) (hv : cv_R F C cr gt) (hd : oc n = 7) : ∃ u2 v2 kx, xs_ (kx + 1) ((nI dep), (nI fu), xN, xL, (nI F), (nI V), (nI C), (nI s), (-2), cr, ec, en, ft, (nI q), (nI w), op, a, b, xp, fi, xl, nx, xo, fn, fe, vn, vo, vv, xst, xf, xr, xh, xc, fN, fX, fS, fT, fL, pv) u2 ∧ (∀ post : SY → Prop, post v2 → wpY_deliver post ((nI dep), (nI fu), yN, yi, yo, (nI V), (nI F), (nI C), (nI s), ft, (nI q), 0, 0, (-1), (nI w), 1, 0, gv, gt, op, a, b, pa, fi, nx, yp, wn, wu, gn, ge, wv, yl, ya, ye, yk, yt, yc, yst, yf, yr, ou) gt) ∧ cr_T op a b fi nx pa N oc pc E lv kd SC dep fu xN xL xp xl xo yN yi yo yp φ (kx + 1) u2 v2 := by
  have h7 := (cc_s h1).2
  have h6 := cc_dep h1
  have hKK : K s h ≤ K s (h + 1) := by omega
  have hh := cf_h ht (cc_FR h1) (by omega)
  have hN := ht.2.1
  have hl := (ht.2.2.2.2 n g1).2.2.2.1.2 (by omega)
  have hzl := cz_le s
  have hw : h + K s (h + 1) - cz_ s < 112 := by omega
  have o_ : op n = nI (oc n) := ct_op ht g1 rfl
  have b4' : yt s = nI (h + K s (h + 1) - cz_ s + 1) := by rw [b4]; exact congrArg nI (by omega)
  have hpn := (ht.2.2.2.2 n g1).1.2.2.2
  have yp_ := (hyp n g1).2
  have hEn := ct_E ht g1
  have hkd := (ht.2.2.2.2 n g1).2.2.2.2.2.1
  have h10 : oc n ≠ 10 := by omega
  have hK0 : K s (h + 1) = K s h := by rw [g13, if_neg h10]; rfl
  have b4p : yt s = nI (h + K s h - cz_ s + 1) := by rw [← hK0]; exact b4'
  have g8p : yl (112 * s + (h + K s h - cz_ s)) = nI n := by rw [← hK0]; exact g8
  have b1p : K s h ≤ dep := by omega
  have b5p : xc s = nI (K s h) := by rw [← hK0]; exact b5
  have b6p : yc s = nI (K s h) := by rw [← hK0]; exact b6
  have hwp : h + K s h - cz_ s < 112 := by omega
  have hsh : 1 ≤ s → 1 ≤ h := fun hs1 => by
    have z1 := cz_1 hs1
    rcases Nat.eq_zero_or_pos h with hz | hz
    · subst hz
      have := h1.2.1 s
      omega
    · exact hz
  have h5 : ct_tk (oc n) i = i := ct_tkn (by omega)
  rw [h5] at g6
  have hfu := hk.1.2.1
  obtain ⟨z, hz, hfX, hfY⟩ := xy_false h1.1.1 h1.1.2.1 hv
  by_cases hf : i = 0 ∧ z = 1
  · obtain ⟨rfl, rfl⟩ := hf
    have h2 : (cc_C N oc pc E lv kd a b SC F C V D K T fN fX fS (upd fT (s * 128 + h) (nI (0 + 1))) fL yl ya ye yk P H dep xh xc yt yc fn fe gn ge vn vo vv wn wu wv xst xf xr yst yf yr Q k s h) := cc_fr ht h1 (by omega) (by omega) (fun _ _ _ => rfl) (fun _ _ _ => rfl) ca_r ca_r ca_r (ca_u ca_r (by omega) (by omega)) ca_r ca_r ca_r ca_r ca_r ca_r ca_r ca_r ca_r ca_r
    have tY : ∀ post : SY → Prop, wpY_finish post ((nI dep), (nI fu), yN, yi, yo, (nI V), (nI F), (nI C), (nI s), ft, (nI q), 0, 0, (-1), (nI w), 1, 0, gv, gt, op, a, b, pa, fi, nx, yp, wn, wu, gn, ge, wv, yl, ya, ye, yk, yt, yc, yst, yf, yr, ou) 4294967296 → wpY_deliver post ((nI dep), (nI fu), yN, yi, yo, (nI V), (nI F), (nI C), (nI s), ft, (nI q), 0, 0, (-1), (nI w), 1, 0, gv, gt, op, a, b, pa, fi, nx, yp, wn, wu, gn, ge, wv, yl, ya, ye, yk, yt, yc, yst, yf, yr, ou) gt := by
      intro post K
      by_cases hz : 0 + 1 = pc n
      · exact y_7a1 h7 b4' hw g8 (by omega) g9 yp_ (by omega) (by omega) o_ hz hd rfl (fun q hq => hfY q _ hq) K
      · exact y_7a0 h7 b4' hw g8 (by omega) g9 yp_ (by omega) (by omega) o_ hz hd rfl (fun q hq => hfY q _ hq) K
    exact ⟨_, _, 0, xs_d (fun post K => x_del h7 (by omega) b3 (x_take7c h7 (by omega) b3 g5 (by omega) o_ (by omega) g6 hd rfl hfX K)), fun post K => tY post (y_finish h7 b4p hwp g8p (by omega) o_ (by omega) h10 K), cr_pop ht h2 b1p b5p b6p hsh hk (by omega) cv_nil⟩
  · have hfz : i = 0 → z = 0 := fun h => by
      rcases hz with hz | hz
      · exact hz
      · exact absurd ⟨h, hz⟩ hf
    have tX : ∀ post : SX → Prop, post ((nI dep), (nI fu), xN, xL, (nI F), (nI V), (nI C), (nI s), (-1), cr, ec, en, ft, (nI q), (nI w), op, a, b, xp, fi, xl, nx, xo, fn, fe, vn, vo, vv, xst, xf, xr, xh, xc, fN, fX, fS, (upd fT (s * 128 + h) (nI (i + 1))), fL, pv) → wpX_take post ((nI dep), (nI fu), xN, xL, (nI F), (nI V), (nI C), (nI s), (-1), cr, ec, en, ft, (nI q), (nI w), op, a, b, xp, fi, xl, nx, xo, fn, fe, vn, vo, vv, xst, xf, xr, xh, xc, fN, fX, fS, fT, fL, pv) := by
      intro post K
      by_cases h0 : i = 0
      · have := hfz h0
        subst this
        exact x_take7b h7 (by omega) b3 g5 (by omega) o_ (by omega) g6 hd h0 hfX K
      · exact x_take7a h7 (by omega) b3 g5 (by omega) o_ (by omega) g6 hd h0 (by omega) K
    rcases Nat.lt_or_ge (i + 1) (pc n) with hlt | hlt
    · have k1 := hkd i g3
      have k2 := hkd (i + 1) hlt
      have k5 := (k1.2.2.2.2.1 hlt).2.1
      have k4 := ((ht.2.2.2.2 n g1).2.2.2.2.2.2 trivial).2.2.2 (i + 1) hlt
      have k3 := ct_E ht k2.2.1
      obtain ⟨φ', hφ, hk'⟩ := cr_P (P' := ch_ P s (T s h + 4 * (E n - kd n (i + 1)) + 3)) (d := 1) hk h7 rfl (by omega)
      have h2 : (cc_C N oc pc E lv kd a b SC F C V D K T fN fX fS (upd fT (s * 128 + h) (nI (i + 1))) fL yl (upd ya (112 * s + (h + K s (h + 1) - cz_ s)) (nI (i + 1))) ye yk P H dep xh xc yt yc fn fe gn ge vn vo vv wn wu wv xst xf xr yst yf yr Q k s h) := cc_fr ht h1 (by omega) (by omega) (fun _ _ _ => rfl) (fun _ _ _ => rfl) ca_r ca_r ca_r (ca_u ca_r (by omega) (by omega)) ca_r ca_r (ca_u ca_r (by omega) (by omega)) ca_r ca_r ca_r ca_r ca_r ca_r ca_r
      have tY : ∀ post : SY → Prop, post ((nI dep), (nI fu), yN, yi, yo, (nI V), (nI F), (nI C), (nI s), ft, (nI q), 0, 0, (-1), (nI w), 1, 0, gv, gt, op, a, b, pa, fi, nx, yp, wn, wu, gn, ge, wv, yl, (upd ya (112 * s + (h + K s (h + 1) - cz_ s)) (nI (i + 1))), ye, yk, yt, yc, yst, yf, yr, ou) → wpY_deliver post ((nI dep), (nI fu), yN, yi, yo, (nI V), (nI F), (nI C), (nI s), ft, (nI q), 0, 0, (-1), (nI w), 1, 0, gv, gt, op, a, b, pa, fi, nx, yp, wn, wu, gn, ge, wv, yl, ya, ye, yk, yt, yc, yst, yf, yr, ou) gt := by
        intro post K
        by_cases h0 : i = 0
        · have := hfz h0
          subst this
          exact y_7n0 h7 b4' hw g8 (by omega) g9 yp_ (by omega) (by omega) o_ (by omega) hd h0 (fun q hq => hfY q _ hq) K
        · exact y_7n1 h7 b4' hw g8 (by omega) g9 yp_ (by omega) (by omega) o_ (by omega) hd (by omega) K
      refine ⟨_, _, 0, xs_d (fun post K => x_del h7 (by omega) b3 (tX post K)), fun post K => tY post K, cr_rdy ht h2 g1 g2 hlt g4 g5 ?_ g7 g8 pk_us g10 (fun c hc => g11 c (ct_inS hc (by omega))) ?_ g13 g14 g15 (hn.trans (ct_nxl hlt)) b1 b3 b4 b5 b6 hφ hk'⟩
      · rw [pk_us, ct_tkn (by omega)]
      · exact ⟨fun h => by omega, fun h => by omega⟩
    · have hx := hn.trans (ct_nxe (kd := kd) (show ¬ i + 1 < pc n by omega))
      have o7 : op n = 7 := o_.trans (by rw [hd]; rfl)
      have k0 := hkd 0 (by omega)
      have hf0 : fi n = nI (kd n 0) := (ht.2.2.2.2 n g1).2.2.2.2.1.2 (by omega)
      rcases Nat.lt_or_ge q fu with hq | hq
      · obtain ⟨φ', hφ, hk'⟩ := cr_beat (P' := ch_ P s (T s h + 4 * (E n - kd n 0) + 3)) (d := 2) hk h7 hq rfl (by omega)
        have tY : ∀ post : SY → Prop, post ((nI dep), (nI fu), yN, yi, yo, (nI V), (nI F), (nI C), (nI s), ft, (nI (q + 1)), 0, 0, (-1), (nI w), 1, 0, gv, gt, op, a, b, pa, fi, nx, yp, wn, wu, gn, ge, wv, yl, (upd ya (112 * s + (h + K s (h + 1) - cz_ s)) 0), ye, yk, yt, yc, yst, yf, yr, ou) → wpY_deliver post ((nI dep), (nI fu), yN, yi, yo, (nI V), (nI F), (nI C), (nI s), ft, (nI q), 0, 0, (-1), (nI w), 1, 0, gv, gt, op, a, b, pa, fi, nx, yp, wn, wu, gn, ge, wv, yl, ya, ye, yk, yt, yc, yst, yf, yr, ou) gt := by
          intro post K
          by_cases h0 : i = 0
          · have := hfz h0
            subst this
            exact y_7l01 hq (by omega) h7 b4' hw g8 (by omega) g9 yp_ (by omega) (by omega) o_ (by omega) hd h0 (fun q hq => hfY q _ hq) K
          · exact y_7l11 hq (by omega) h7 b4' hw g8 (by omega) g9 yp_ (by omega) (by omega) o_ (by omega) hd (by omega) K
        have h2 : (cc_C N oc pc E lv kd a b SC F C V D K T fN (upd fX (s * 128 + h) (fi n)) fS (upd (upd fT (s * 128 + h) (nI (i + 1))) (s * 128 + h) 0) fL yl (upd ya (112 * s + (h + K s (h + 1) - cz_ s)) 0) ye yk P H dep xh xc yt yc fn fe gn ge vn vo vv wn wu wv xst xf xr yst yf yr Q k s h) := cc_fr ht h1 (by omega) (by omega) (fun _ _ _ => rfl) (fun _ _ _ => rfl) ca_r (ca_u ca_r (by omega) (by omega)) ca_r (ca_u (ca_u ca_r (by omega) (by omega)) (by omega) (by omega)) ca_r ca_r (ca_u ca_r (by omega) (by omega)) ca_r ca_r ca_r ca_r ca_r ca_r ca_r
        refine ⟨_, _, 1, xs_t (xs_d (fun post K => x_del h7 (by omega) b3 (tX post K))) (xs_a (fun post K => x_adv1 h7 b3 (by omega) hx (x_con7 h7 (by omega) g5 (by omega) o7 (x_round1 h7 (by omega) g5 (by omega) hq (by omega) K)))), fun post K => tY post K, cr_rdy (i := 0) ht h2 g1 g2 (by omega) g4 g5 ?_ g7 g8 pk_us g10 (fun c hc => g11 c (ct_inS hc (by omega))) ?_ g13 g14 g15 (pk_us.trans hf0) b1 b3 b4 b5 b6 hφ hk'⟩
        · rw [pk_us, ct_tkn (by omega)]; rfl
        · exact ⟨fun h => by omega, fun h => by omega⟩
      · obtain rfl : q = fu := by have := hk.1.1; omega
        have hφ2 : 2 ≤ φ := by have h3 := sm_le (f := P) 7 h7; have h4 := hk.1.2.2.1; omega
        have tY : ∀ post : SY → Prop, post ((nI dep), (nI q), yN, yi, yo, (nI V), (nI F), (nI C), (nI s), ft, (nI q), 2, 0, (-1), (nI w), 0, 0, 4294967296, gt, op, a, b, pa, fi, nx, yp, wn, wu, gn, ge, wv, yl, ya, ye, yk, yt, yc, yst, yf, yr, ou) → wpY_deliver post ((nI dep), (nI q), yN, yi, yo, (nI V), (nI F), (nI C), (nI s), ft, (nI q), 0, 0, (-1), (nI w), 1, 0, gv, gt, op, a, b, pa, fi, nx, yp, wn, wu, gn, ge, wv, yl, ya, ye, yk, yt, yc, yst, yf, yr, ou) gt := by
          intro post K
          by_cases h0 : i = 0
          · have := hfz h0
            subst this
            exact y_7l00 h7 b4' hw g8 (by omega) g9 yp_ (by omega) (by omega) o_ (by omega) hd h0 (fun q hq => hfY q _ hq) K
          · exact y_7l10 h7 b4' hw g8 (by omega) g9 yp_ (by omega) (by omega) o_ (by omega) hd (by omega) K
        exact ⟨_, _, 1, xs_t (xs_d (fun post K => x_del h7 (by omega) b3 (tX post K))) (xs_a (fun post K => x_adv1 h7 b3 (by omega) hx (x_con7 h7 (by omega) g5 (by omega) o7 (x_round0 (by omega) K)))), fun post K => tY post K, cr_fuel h1.1.1 h1.1.2.1 hk hφ2⟩
end
