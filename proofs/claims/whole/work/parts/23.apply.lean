section
variable {xd xg xN xL xF xV xC xs ph : Int32} {cr : Int64} {ec en ft bt pr : Int32} {op a b xp fi xl nx xo fn fe vn vo : Nat → Int32} {vv : Nat → Int64} {xst xf xr xh xc fN fX fS fT : Nat → Int32} {fL pv : Nat → Int64}
theorem x_fnum {post : SX → Prop} {z : Int32} (K : wpX_finish post (xd, xg, xN, xL, xF, xV, xC, xs, ph, cr, ec, en, ft, bt, pr, op, a, b, xp, fi, xl, nx, xo, fn, fe, vn, vo, vv, xst, xf, xr, xh, xc, fN, fX, fS, fT, fL, pv) (lN (cv_n z + 4294967296))) : wpX_finishNumber post (xd, xg, xN, xL, xF, xV, xC, xs, ph, cr, ec, en, ft, bt, pr, op, a, b, xp, fi, xl, nx, xo, fn, fe, vn, vo, vv, xst, xf, xr, xh, xc, fN, fX, fS, fT, fL, pv) z := by
  unfold wpX_finishNumber wpX_valueOf
  dsimp only
  rw [vo_1]
  exact K
end
section
variable {op a b fi nx pa : Nat → Int32} {N : Nat} {oc pc E lv : Nat → Nat} {kd : Nat → Nat → Nat} {SC : Nat → Int32 → Prop}
variable {F C V : Nat} {D : Nat → Int32 → Prop} {K T : Nat → Nat → Nat} {fN fX fS fT : Nat → Int32} {fL : Nat → Int64} {yl ya ye : Nat → Int32} {yk : Nat → Int64} {P H : Nat → Nat} {dep : Nat} {xh xc yt yc fn fe gn ge vn vo : Nat → Int32} {vv : Nat → Int64} {wn wu : Nat → Int32} {wv : Nat → Int64} {xst xf xr yst yf yr : Nat → Int32} {Q : Nat → Nat} {k s h : Nat}
variable {fu : Nat} {xN xL : Int32} {xp xl xo : Nat → Int32} {yN yi yo : Int32} {yp : Nat → Int32}
variable {ph ec en ft : Int32} {cr gv gt : Int64} {q w φ : Nat} {pv ou : Nat → Int64} {hs : Int32}
/-- the last part's value has come: to conclude, to apply -/
theorem sA_ap {n i e : Nat} (ht : (ct_all op a b fi nx pa N oc pc E lv kd SC)) (hyp : ∀ n, n < N → xp n = nI (pc n) ∧ yp n = nI (pc n)) (h1 : (cc_C N oc pc E lv kd a b SC F C V D K T fN fX fS fT fL yl ya ye yk P H dep xh xc yt yc fn fe gn ge vn vo vv wn wu wv xst xf xr yst yf yr Q k s h)) (g1 : n < N) (g2 : oc n < 19) (g3 : i < pc n) (g4 : e ≤ V) (g5 : fN (s * 128 + h) = nI n) (g6 : fT (s * 128 + h) = nI (ct_tk (oc n) i)) (g7 : fS (s * 128 + h) = nI e) (g8 : yl (112 * s + (h + K s (h + 1) - cz_ s)) = nI n) (g9 : ya (112 * s + (h + K s (h + 1) - cz_ s)) = nI i) (g10 : ye (112 * s + (h + K s (h + 1) - cz_ s)) = nI e - 1) (g11 : ∀ c, ct_in oc a b SC n i c → D e c) (g12 : cf_S F C (oc n) i (fun q => fL ((s * 128 + h) * 4 + q)) (fun q => yk (3 * (112 * s + (h + K s (h + 1) - cz_ s)) + q))) (g13 : K s (h + 1) = K s h + (if oc n = 10 then 1 else 0)) (g14 : cz_ s ≤ K s (h + 1)) (g15 : h + 1 + K s (h + 1) ≤ 16 * K s (h + 1) + lv n + cz_ s) (hn : fX (s * 128 + h) = ct_nx pc kd n (i + 1)) (hT : T s h + 4 * (E n - E (kd n i)) + 3 ≤ T s (h + 1)) (b1 : K s (h + 1) ≤ dep) (b2 : T s (h + 1) + 2 ≤ P s) (b3 : xh s = nI (h + 1)) (b4 : yt s = nI (h + 1 + K s (h + 1) - cz_ s)) (b5 : xc s = nI (K s (h + 1))) (b6 : yc s = nI (K s (h + 1))) (hk : (cr_K φ fu q w F C P pv ou)) (hv : cv_R F C cr gt) (hd : oc n < 5 ∨ 10 < oc n ∨ oc n = 9) (hlt : i + 1 = pc n) {u1 u2 : SX} {v2 : SY} {j : Nat} (hX : ∀ post : SX → Prop, post u1 → wpX_conclude post ((nI dep), (nI fu), xN, xL, (nI F), (nI V), (nI C), (nI s), (-1), cr, ec, en, ft, (nI q), (nI w), op, a, b, xp, fi, xl, nx, xo, fn, fe, vn, vo, vv, xst, xf, xr, xh, xc, fN, fX, fS, (upd fT (s * 128 + h) (nI (i + 1))), (vp_updL fL ((s * 128 + h) * 4 + i) cr), pv) (nI (s * 128 + h))) (hj : xs_ j u1 u2) (hY : ∀ post : SY → Prop, post v2 → wpY_apply post ((nI dep), (nI fu), yN, yi, yo, (nI V), (nI F), (nI C), (nI s), ft, (nI q), 0, 0, (-1), (nI w), 1, 0, gv, gt, op, a, b, pa, fi, nx, yp, wn, wu, gn, ge, wv, yl, ya, ye, yk, yt, yc, yst, yf, yr, ou) (nI (112 * s + (h + K s (h + 1) - cz_ s))) (nI n) gt) (hT2 : cr_T op a b fi nx pa N oc pc E lv kd SC dep fu xN xL xp xl xo yN yi yo yp φ (j + 2) u2 v2) : ∃ u2 v2 kx, xs_ (kx + 1) ((nI dep), (nI fu), xN, xL, (nI F), (nI V), (nI C), (nI s), (-2), cr, ec, en, ft, (nI q), (nI w), op, a, b, xp, fi, xl, nx, xo, fn, fe, vn, vo, vv, xst, xf, xr, xh, xc, fN, fX, fS, fT, fL, pv) u2 ∧ (∀ post : SY → Prop, post v2 → wpY_deliver post ((nI dep), (nI fu), yN, yi, yo, (nI V), (nI F), (nI C), (nI s), ft, (nI q), 0, 0, (-1), (nI w), 1, 0, gv, gt, op, a, b, pa, fi, nx, yp, wn, wu, gn, ge, wv, yl, ya, ye, yk, yt, yc, yst, yf, yr, ou) gt) ∧ cr_T op a b fi nx pa N oc pc E lv kd SC dep fu xN xL xp xl xo yN yi yo yp φ (kx + 1) u2 v2 := by
  have h7 := (cc_s h1).2
  have h6 := cc_dep h1
  have hKK : K s h ≤ K s (h + 1) := by omega
  have hh := cf_h ht (cc_FR h1) (by omega)
  have hN := ht.2.1
  have hl := (ht.2.2.2.2 n g1).2.2.2.1.2 (by omega)
  have hzl := cz_le s
  have hw : h + K s (h + 1) - cz_ s < 112 := by omega
  have o_ : op n = nI (oc n) := ct_op ht g1 rfl
  have b4' : yt s = nI (h + K s (h + 1) - cz_ s + 1) := by rw [b4]; exact congrArg nI (by omega)
  have hpn := (ht.2.2.2.2 n g1).1.2.2.2
  have yp_ := (hyp n g1).2
  have hEn := ct_E ht g1
  have hkd := (ht.2.2.2.2 n g1).2.2.2.2.2.1
  have h5 : ct_tk (oc n) i = i := ct_tkn (by omega)
  have hmx := Nat.le_trans (ct_mn' ht g1).2 (ct_mxD hd)
  rw [h5] at g6
  have hx := hn.trans (ct_nxe (kd := kd) (show ¬ i + 1 < pc n by omega))
  refine ⟨u2, v2, j + 1, ?_, fun post K => y_Dl h7 b4' hw g8 (by omega) g9 yp_ (by omega) (by omega) o_ hlt hd (by omega) (Or.inr hlt) (hY post K), hT2⟩
  have := xs_t (xs_t (xs_d (fun post K => x_del h7 (by omega) b3 (x_takeD h7 (by omega) b3 g5 (by omega) o_ (by omega) g6 hd (by omega) K))) (xs_a (fun post K => x_adv1 h7 b3 (by omega) hx (hX post K)))) hj
  rw [show j + 1 + 1 = 1 + 1 + j by omega]
  exact this
/-- the top frame has taken its last value -/
theorem cc_tk {n i : Nat} {x : Int64} (ht : (ct_all op a b fi nx pa N oc pc E lv kd SC)) (h1 : (cc_C N oc pc E lv kd a b SC F C V D K T fN fX fS fT fL yl ya ye yk P H dep xh xc yt yc fn fe gn ge vn vo vv wn wu wv xst xf xr yst yf yr Q k s h)) (hK : K s h ≤ dep) (hi : i < 4) : (cc_C N oc pc E lv kd a b SC F C V D K T fN fX fS (upd fT (s * 128 + h) (nI (i + 1))) (vp_updL fL ((s * 128 + h) * 4 + i) x) yl ya ye yk P H dep xh xc yt yc fn fe gn ge vn vo vv wn wu wv xst xf xr yst yf yr Q k s h) := by
  have h7 := (cc_s h1).2
  have h6 := cc_dep h1
  have hh := cf_h ht (cc_FR h1) (by omega)
  exact cc_fr ht h1 (by omega) (by omega) (fun _ _ _ => rfl) (fun _ _ _ => rfl) ca_r ca_r ca_r (ca_u ca_r (by omega) (by omega)) (ca_l ca_r (by omega) (by omega)) ca_r ca_r ca_r ca_r ca_r ca_r ca_r ca_r ca_r
/-- both sides finish with a value -/
theorem sA_pop {n i e : Nat} (ht : (ct_all op a b fi nx pa N oc pc E lv kd SC)) (hyp : ∀ n, n < N → xp n = nI (pc n) ∧ yp n = nI (pc n)) (h1 : (cc_C N oc pc E lv kd a b SC F C V D K T fN fX fS fT fL yl ya ye yk P H dep xh xc yt yc fn fe gn ge vn vo vv wn wu wv xst xf xr yst yf yr Q k s h)) (g1 : n < N) (g2 : oc n < 19) (g3 : i < pc n) (g4 : e ≤ V) (g5 : fN (s * 128 + h) = nI n) (g6 : fT (s * 128 + h) = nI (ct_tk (oc n) i)) (g7 : fS (s * 128 + h) = nI e) (g8 : yl (112 * s + (h + K s (h + 1) - cz_ s)) = nI n) (g9 : ya (112 * s + (h + K s (h + 1) - cz_ s)) = nI i) (g10 : ye (112 * s + (h + K s (h + 1) - cz_ s)) = nI e - 1) (g11 : ∀ c, ct_in oc a b SC n i c → D e c) (g12 : cf_S F C (oc n) i (fun q => fL ((s * 128 + h) * 4 + q)) (fun q => yk (3 * (112 * s + (h + K s (h + 1) - cz_ s)) + q))) (g13 : K s (h + 1) = K s h + (if oc n = 10 then 1 else 0)) (g14 : cz_ s ≤ K s (h + 1)) (g15 : h + 1 + K s (h + 1) ≤ 16 * K s (h + 1) + lv n + cz_ s) (hn : fX (s * 128 + h) = ct_nx pc kd n (i + 1)) (hT : T s h + 4 * (E n - E (kd n i)) + 3 ≤ T s (h + 1)) (b1 : K s (h + 1) ≤ dep) (b2 : T s (h + 1) + 2 ≤ P s) (b3 : xh s = nI (h + 1)) (b4 : yt s = nI (h + 1 + K s (h + 1) - cz_ s)) (b5 : xc s = nI (K s (h + 1))) (b6 : yc s = nI (K s (h + 1))) (hk : (cr_K φ fu q w F C P pv ou)) (hv : cv_R F C cr gt) (hd : oc n < 5 ∨ 10 < oc n ∨ oc n = 9) (hlt : i + 1 = pc n) {x y : Int64} (hX : ∀ post : SX → Prop, wpX_finish post ((nI dep), (nI fu), xN, xL, (nI F), (nI V), (nI C), (nI s), (-1), cr, ec, en, ft, (nI q), (nI w), op, a, b, xp, fi, xl, nx, xo, fn, fe, vn, vo, vv, xst, xf, xr, xh, xc, fN, fX, fS, (upd fT (s * 128 + h) (nI (i + 1))), (vp_updL fL ((s * 128 + h) * 4 + i) cr), pv) x → wpX_conclude post ((nI dep), (nI fu), xN, xL, (nI F), (nI V), (nI C), (nI s), (-1), cr, ec, en, ft, (nI q), (nI w), op, a, b, xp, fi, xl, nx, xo, fn, fe, vn, vo, vv, xst, xf, xr, xh, xc, fN, fX, fS, (upd fT (s * 128 + h) (nI (i + 1))), (vp_updL fL ((s * 128 + h) * 4 + i) cr), pv) (nI (s * 128 + h))) (hY : ∀ post : SY → Prop, wpY_finish post ((nI dep), (nI fu), yN, yi, yo, (nI V), (nI F), (nI C), (nI s), ft, (nI q), 0, 0, (-1), (nI w), 1, 0, gv, gt, op, a, b, pa, fi, nx, yp, wn, wu, gn, ge, wv, yl, ya, ye, yk, yt, yc, yst, yf, yr, ou) y → wpY_apply post ((nI dep), (nI fu), yN, yi, yo, (nI V), (nI F), (nI C), (nI s), ft, (nI q), 0, 0, (-1), (nI w), 1, 0, gv, gt, op, a, b, pa, fi, nx, yp, wn, wu, gn, ge, wv, yl, ya, ye, yk, yt, yc, yst, yf, yr, ou) (nI (112 * s + (h + K s (h + 1) - cz_ s))) (nI n) gt) (hv2 : cv_R F C x y) : ∃ u2 v2 kx, xs_ (kx + 1) ((nI dep), (nI fu), xN, xL, (nI F), (nI V), (nI C), (nI s), (-2), cr, ec, en, ft, (nI q), (nI w), op, a, b, xp, fi, xl, nx, xo, fn, fe, vn, vo, vv, xst, xf, xr, xh, xc, fN, fX, fS, fT, fL, pv) u2 ∧ (∀ post : SY → Prop, post v2 → wpY_deliver post ((nI dep), (nI fu), yN, yi, yo, (nI V), (nI F), (nI C), (nI s), ft, (nI q), 0, 0, (-1), (nI w), 1, 0, gv, gt, op, a, b, pa, fi, nx, yp, wn, wu, gn, ge, wv, yl, ya, ye, yk, yt, yc, yst, yf, yr, ou) gt) ∧ cr_T op a b fi nx pa N oc pc E lv kd SC dep fu xN xL xp xl xo yN yi yo yp φ (kx + 1) u2 v2 := by
  have hmx := Nat.le_trans (ct_mn' ht g1).2 (ct_mxD hd)
  have h7 := (cc_s h1).2
  have h6 := cc_dep h1
  have hKK : K s h ≤ K s (h + 1) := by omega
  have hh := cf_h ht (cc_FR h1) (by omega)
  have hN := ht.2.1
  have hl := (ht.2.2.2.2 n g1).2.2.2.1.2 (by omega)
  have hzl := cz_le s
  have hw : h + K s (h + 1) - cz_ s < 112 := by omega
  have o_ : op n = nI (oc n) := ct_op ht g1 rfl
  have b4' : yt s = nI (h + K s (h + 1) - cz_ s + 1) := by rw [b4]; exact congrArg nI (by omega)
  have hpn := (ht.2.2.2.2 n g1).1.2.2.2
  have yp_ := (hyp n g1).2
  have hEn := ct_E ht g1
  have hkd := (ht.2.2.2.2 n g1).2.2.2.2.2.1
  have h10 : oc n ≠ 10 := by omega
  have hK0 : K s (h + 1) = K s h := by rw [g13, if_neg h10]; rfl
  have b4p : yt s = nI (h + K s h - cz_ s + 1) := by rw [← hK0]; exact b4'
  have g8p : yl (112 * s + (h + K s h - cz_ s)) = nI n := by rw [← hK0]; exact g8
  have b1p : K s h ≤ dep := by omega
  have b5p : xc s = nI (K s h) := by rw [← hK0]; exact b5
  have b6p : yc s = nI (K s h) := by rw [← hK0]; exact b6
  have hwp : h + K s h - cz_ s < 112 := by omega
  have hsh : 1 ≤ s → 1 ≤ h := fun hs1 => by
    have z1 := cz_1 hs1
    rcases Nat.eq_zero_or_pos h with hz | hz
    · subst hz
      have := h1.2.1 s
      omega
    · exact hz
  have h2 := cc_tk (n := n) (i := i) (x := cr) ht h1 b1p (by omega)
  exact sA_ap ht hyp h1 g1 g2 g3 g4 g5 g6 g7 g8 g9 g10 g11 g12 g13 g14 g15 hn hT b1 b2 b3 b4 b5 b6 hk hv hd hlt (fun post K => hX post (x_finish h7 b3 K)) (xs_0 _) (fun post K => hY post (y_finish h7 b4p hwp g8p (by omega) o_ (by omega) h10 K)) (cr_pop ht h2 b1p b5p b6p hsh hk (by omega) hv2)
/-- both sides raise an error -/
theorem sA_raise {n i e : Nat} (ht : (ct_all op a b fi nx pa N oc pc E lv kd SC)) (hyp : ∀ n, n < N → xp n = nI (pc n) ∧ yp n = nI (pc n)) (h1 : (cc_C N oc pc E lv kd a b SC F C V D K T fN fX fS fT fL yl ya ye yk P H dep xh xc yt yc fn fe gn ge vn vo vv wn wu wv xst xf xr yst yf yr Q k s h)) (g1 : n < N) (g2 : oc n < 19) (g3 : i < pc n) (g4 : e ≤ V) (g5 : fN (s * 128 + h) = nI n) (g6 : fT (s * 128 + h) = nI (ct_tk (oc n) i)) (g7 : fS (s * 128 + h) = nI e) (g8 : yl (112 * s + (h + K s (h + 1) - cz_ s)) = nI n) (g9 : ya (112 * s + (h + K s (h + 1) - cz_ s)) = nI i) (g10 : ye (112 * s + (h + K s (h + 1) - cz_ s)) = nI e - 1) (g11 : ∀ c, ct_in oc a b SC n i c → D e c) (g12 : cf_S F C (oc n) i (fun q => fL ((s * 128 + h) * 4 + q)) (fun q => yk (3 * (112 * s + (h + K s (h + 1) - cz_ s)) + q))) (g13 : K s (h + 1) = K s h + (if oc n = 10 then 1 else 0)) (g14 : cz_ s ≤ K s (h + 1)) (g15 : h + 1 + K s (h + 1) ≤ 16 * K s (h + 1) + lv n + cz_ s) (hn : fX (s * 128 + h) = ct_nx pc kd n (i + 1)) (hT : T s h + 4 * (E n - E (kd n i)) + 3 ≤ T s (h + 1)) (b1 : K s (h + 1) ≤ dep) (b2 : T s (h + 1) + 2 ≤ P s) (b3 : xh s = nI (h + 1)) (b4 : yt s = nI (h + 1 + K s (h + 1) - cz_ s)) (b5 : xc s = nI (K s (h + 1))) (b6 : yc s = nI (K s (h + 1))) (hk : (cr_K φ fu q w F C P pv ou)) (hv : cv_R F C cr gt) (hd : oc n < 5 ∨ 10 < oc n ∨ oc n = 9) (hlt : i + 1 = pc n) (code : Int32) (hX : ∀ post : SX → Prop, wpX_raise post ((nI dep), (nI fu), xN, xL, (nI F), (nI V), (nI C), (nI s), (-1), cr, ec, en, ft, (nI q), (nI w), op, a, b, xp, fi, xl, nx, xo, fn, fe, vn, vo, vv, xst, xf, xr, xh, xc, fN, fX, fS, (upd fT (s * 128 + h) (nI (i + 1))), (vp_updL fL ((s * 128 + h) * 4 + i) cr), pv) code (nI n) → wpX_conclude post ((nI dep), (nI fu), xN, xL, (nI F), (nI V), (nI C), (nI s), (-1), cr, ec, en, ft, (nI q), (nI w), op, a, b, xp, fi, xl, nx, xo, fn, fe, vn, vo, vv, xst, xf, xr, xh, xc, fN, fX, fS, (upd fT (s * 128 + h) (nI (i + 1))), (vp_updL fL ((s * 128 + h) * 4 + i) cr), pv) (nI (s * 128 + h))) (hY : ∀ post : SY → Prop, wpY_raise post ((nI dep), (nI fu), yN, yi, yo, (nI V), (nI F), (nI C), (nI s), ft, (nI q), 0, 0, (-1), (nI w), 1, 0, gv, gt, op, a, b, pa, fi, nx, yp, wn, wu, gn, ge, wv, yl, ya, ye, yk, yt, yc, yst, yf, yr, ou) code (nI n) → wpY_apply post ((nI dep), (nI fu), yN, yi, yo, (nI V), (nI F), (nI C), (nI s), ft, (nI q), 0, 0, (-1), (nI w), 1, 0, gv, gt, op, a, b, pa, fi, nx, yp, wn, wu, gn, ge, wv, yl, ya, ye, yk, yt, yc, yst, yf, yr, ou) (nI (112 * s + (h + K s (h + 1) - cz_ s))) (nI n) gt) : ∃ u2 v2 kx, xs_ (kx + 1) ((nI dep), (nI fu), xN, xL, (nI F), (nI V), (nI C), (nI s), (-2), cr, ec, en, ft, (nI q), (nI w), op, a, b, xp, fi, xl, nx, xo, fn, fe, vn, vo, vv, xst, xf, xr, xh, xc, fN, fX, fS, fT, fL, pv) u2 ∧ (∀ post : SY → Prop, post v2 → wpY_deliver post ((nI dep), (nI fu), yN, yi, yo, (nI V), (nI F), (nI C), (nI s), ft, (nI q), 0, 0, (-1), (nI w), 1, 0, gv, gt, op, a, b, pa, fi, nx, yp, wn, wu, gn, ge, wv, yl, ya, ye, yk, yt, yc, yst, yf, yr, ou) gt) ∧ cr_T op a b fi nx pa N oc pc E lv kd SC dep fu xN xL xp xl xo yN yi yo yp φ (kx + 1) u2 v2 := by
  have hmx := Nat.le_trans (ct_mn' ht g1).2 (ct_mxD hd)
  have h7 := (cc_s h1).2
  have h6 := cc_dep h1
  have hKK : K s h ≤ K s (h + 1) := by omega
  have hh := cf_h ht (cc_FR h1) (by omega)
  have hN := ht.2.1
  have hl := (ht.2.2.2.2 n g1).2.2.2.1.2 (by omega)
  have hzl := cz_le s
  have hw : h + K s (h + 1) - cz_ s < 112 := by omega
  have o_ : op n = nI (oc n) := ct_op ht g1 rfl
  have b4' : yt s = nI (h + K s (h + 1) - cz_ s + 1) := by rw [b4]; exact congrArg nI (by omega)
  have hpn := (ht.2.2.2.2 n g1).1.2.2.2
  have yp_ := (hyp n g1).2
  have hEn := ct_E ht g1
  have hkd := (ht.2.2.2.2 n g1).2.2.2.2.2.1
  have h10 : oc n ≠ 10 := by omega
  have hK0 : K s (h + 1) = K s h := by rw [g13, if_neg h10]; rfl
  have b4p : yt s = nI (h + K s h - cz_ s + 1) := by rw [← hK0]; exact b4'
  have g8p : yl (112 * s + (h + K s h - cz_ s)) = nI n := by rw [← hK0]; exact g8
  have b1p : K s h ≤ dep := by omega
  have b5p : xc s = nI (K s h) := by rw [← hK0]; exact b5
  have b6p : yc s = nI (K s h) := by rw [← hK0]; exact b6
  have hwp : h + K s h - cz_ s < 112 := by omega
  have hsh : 1 ≤ s → 1 ≤ h := fun hs1 => by
    have z1 := cz_1 hs1
    rcases Nat.eq_zero_or_pos h with hz | hz
    · subst hz
      have := h1.2.1 s
      omega
    · exact hz
  have h2 := cc_tk (n := n) (i := i) (x := cr) ht h1 b1p (by omega)
  have hφ2 : P s ≤ φ := by have h3 := sm_le (f := P) 7 h7; have h4 := hk.1.2.2.1; omega
  obtain ⟨u', v', gX, gY, gT⟩ := cr_raise (d := 2) (ph := -1) (hs := 0) (cr := cr) (gt := gt) (gv := gv) (ec := ec) (en := en) (ft := ft) (xN := xN) (xL := xL) (xp := xp) (xl := xl) (xo := xo) (yN := yN) (yi := yi) (yo := yo) (yp := yp) ht h2 b1p hk (by omega) (by omega) code (nI n)
  exact sA_ap ht hyp h1 g1 g2 g3 g4 g5 g6 g7 g8 g9 g10 g11 g12 g13 g14 g15 hn hT b1 b2 b3 b4 b5 b6 hk hv hd hlt (fun post K => hX post (gX post K)) (xs_0 _) (fun post K => hY post (gY post K)) gT
theorem sA_arith {n i e : Nat} (ht : (ct_all op a b fi nx pa N oc pc E lv kd SC)) (hyp : ∀ n, n < N → xp n = nI (pc n) ∧ yp n = nI (pc n)) (h1 : (cc_C N oc pc E lv kd a b SC F C V D K T fN fX fS fT fL yl ya ye yk P H dep xh xc yt yc fn fe gn ge vn vo vv wn wu wv xst xf xr yst yf yr Q k s h)) (g1 : n < N) (g2 : oc n < 19) (g3 : i < pc n) (g4 : e ≤ V) (g5 : fN (s * 128 + h) = nI n) (g6 : fT (s * 128 + h) = nI (ct_tk (oc n) i)) (g7 : fS (s * 128 + h) = nI e) (g8 : yl (112 * s + (h + K s (h + 1) - cz_ s)) = nI n) (g9 : ya (112 * s + (h + K s (h + 1) - cz_ s)) = nI i) (g10 : ye (112 * s + (h + K s (h + 1) - cz_ s)) = nI e - 1) (g11 : ∀ c, ct_in oc a b SC n i c → D e c) (g12 : cf_S F C (oc n) i (fun q => fL ((s * 128 + h) * 4 + q)) (fun q => yk (3 * (112 * s + (h + K s (h + 1) - cz_ s)) + q))) (g13 : K s (h + 1) = K s h + (if oc n = 10 then 1 else 0)) (g14 : cz_ s ≤ K s (h + 1)) (g15 : h + 1 + K s (h + 1) ≤ 16 * K s (h + 1) + lv n + cz_ s) (hn : fX (s * 128 + h) = ct_nx pc kd n (i + 1)) (hT : T s h + 4 * (E n - E (kd n i)) + 3 ≤ T s (h + 1)) (b1 : K s (h + 1) ≤ dep) (b2 : T s (h + 1) + 2 ≤ P s) (b3 : xh s = nI (h + 1)) (b4 : yt s = nI (h + 1 + K s (h + 1) - cz_ s)) (b5 : xc s = nI (K s (h + 1))) (b6 : yc s = nI (K s (h + 1))) (hk : (cr_K φ fu q w F C P pv ou)) (hv : cv_R F C cr gt) (hd : oc n < 4) : ∃ u2 v2 kx, xs_ (kx + 1) ((nI dep), (nI fu), xN, xL, (nI F), (nI V), (nI C), (nI s), (-2), cr, ec, en, ft, (nI q), (nI w), op, a, b, xp, fi, xl, nx, xo, fn, fe, vn, vo, vv, xst, xf, xr, xh, xc, fN, fX, fS, fT, fL, pv) u2 ∧ (∀ post : SY → Prop, post v2 → wpY_deliver post ((nI dep), (nI fu), yN, yi, yo, (nI V), (nI F), (nI C), (nI s), ft, (nI q), 0, 0, (-1), (nI w), 1, 0, gv, gt, op, a, b, pa, fi, nx, yp, wn, wu, gn, ge, wv, yl, ya, ye, yk, yt, yc, yst, yf, yr, ou) gt) ∧ cr_T op a b fi nx pa N oc pc E lv kd SC dep fu xN xL xp xl xo yN yi yo yp φ (kx + 1) u2 v2 := by
  have h7 := (cc_s h1).2
  have h6 := cc_dep h1
  have hKK : K s h ≤ K s (h + 1) := by omega
  have hh := cf_h ht (cc_FR h1) (by omega)
  have hN := ht.2.1
  have hl := (ht.2.2.2.2 n g1).2.2.2.1.2 (by omega)
  have hzl := cz_le s
  have hw : h + K s (h + 1) - cz_ s < 112 := by omega
  have o_ : op n = nI (oc n) := ct_op ht g1 rfl
  have b4' : yt s = nI (h + K s (h + 1) - cz_ s + 1) := by rw [b4]; exact congrArg nI (by omega)
  have hpn := (ht.2.2.2.2 n g1).1.2.2.2
  have yp_ := (hyp n g1).2
  have hEn := ct_E ht g1
  have hkd := (ht.2.2.2.2 n g1).2.2.2.2.2.1
  have h10 : oc n ≠ 10 := by omega
  have hK0 : K s (h + 1) = K s h := by rw [g13, if_neg h10]; rfl
  have b4p : yt s = nI (h + K s h - cz_ s + 1) := by rw [← hK0]; exact b4'
  have g8p : yl (112 * s + (h + K s h - cz_ s)) = nI n := by rw [← hK0]; exact g8
  have b1p : K s h ≤ dep := by omega
  have b5p : xc s = nI (K s h) := by rw [← hK0]; exact b5
  have b6p : yc s = nI (K s h) := by rw [← hK0]; exact b6
  have hwp : h + K s h - cz_ s < 112 := by omega
  have hsh : 1 ≤ s → 1 ≤ h := fun hs1 => by
    have z1 := cz_1 hs1
    rcases Nat.eq_zero_or_pos h with hz | hz
    · subst hz
      have := h1.2.1 s
      omega
    · exact hz
  have hp2 : pc n = 2 := by
    have h3 := ct_mn' ht g1
    have e1 : ct_mx (oc n) = 2 := if_pos (Or.inl (by omega))
    have e2 : ct_mn (oc n) = 2 := by unfold ct_mn; rw [if_neg (by omega), if_neg (by omega)]; exact e1
    omega
  have hφ2 : P s ≤ φ := by have h3 := sm_le (f := P) 7 h7; have h4 := hk.1.2.2.1; omega
  by_cases hlt : i + 1 < pc n
  · exact sA_Dn ht hyp h1 g1 g2 g3 g4 g5 g6 g7 g8 g9 g10 g11 g12 g13 g14 g15 hn hT b1 b2 b3 b4 b5 b6 hk hv (Or.inl (by omega)) hlt
  obtain rfl : i = 1 := by omega
  have h2 := cc_tk (n := n) (i := 1) (x := cr) ht h1 b1p (by omega)
  have hv0 : cv_R F C (fL ((s * 128 + h) * 4)) (yk (3 * (112 * s + (h + K s (h + 1) - cz_ s)))) := g12.2 (by omega) 0 (by omega) (by omega)
  have xC : ∀ post : SX → Prop, wpX_concludeArithmetic post ((nI dep), (nI fu), xN, xL, (nI F), (nI V), (nI C), (nI s), (-1), cr, ec, en, ft, (nI q), (nI w), op, a, b, xp, fi, xl, nx, xo, fn, fe, vn, vo, vv, xst, xf, xr, xh, xc, fN, fX, fS, (upd fT (s * 128 + h) (nI (1 + 1))), (vp_updL fL ((s * 128 + h) * 4 + 1) cr), pv) (nI (s * 128 + h)) (fL ((s * 128 + h) * 4)) → wpX_conclude post ((nI dep), (nI fu), xN, xL, (nI F), (nI V), (nI C), (nI s), (-1), cr, ec, en, ft, (nI q), (nI w), op, a, b, xp, fi, xl, nx, xo, fn, fe, vn, vo, vv, xst, xf, xr, xh, xc, fN, fX, fS, (upd fT (s * 128 + h) (nI (1 + 1))), (vp_updL fL ((s * 128 + h) * 4 + 1) cr), pv) (nI (s * 128 + h)) := by
    intro post K
    have e0 : vp_updL fL ((s * 128 + h) * 4 + 1) cr ((s * 128 + h) * 4) = fL ((s * 128 + h) * 4) := pk_uLn (by omega)
    rw [← e0] at K
    have c4 : oc n = 0 ∨ oc n = 1 ∨ oc n = 2 ∨ oc n = 3 := by omega
    rcases c4 with c | c | c | c
    · exact x_c0 h7 (by omega) g5 (by omega) (o_.trans (by rw [c]; rfl)) K
    · exact x_c1 h7 (by omega) g5 (by omega) (o_.trans (by rw [c]; rfl)) K
    · exact x_c2 h7 (by omega) g5 (by omega) (o_.trans (by rw [c]; rfl)) K
    · exact x_c3 h7 (by omega) g5 (by omega) (o_.trans (by rw [c]; rfl)) K
  have yC : ∀ post : SY → Prop, wpY_arithmetic post ((nI dep), (nI fu), yN, yi, yo, (nI V), (nI F), (nI C), (nI s), ft, (nI q), 0, 0, (-1), (nI w), 1, 0, gv, gt, op, a, b, pa, fi, nx, yp, wn, wu, gn, ge, wv, yl, ya, ye, yk, yt, yc, yst, yf, yr, ou) (nI n) (nI (oc n)) (yk (3 * (112 * s + (h + K s (h + 1) - cz_ s)))) gt → wpY_apply post ((nI dep), (nI fu), yN, yi, yo, (nI V), (nI F), (nI C), (nI s), ft, (nI q), 0, 0, (-1), (nI w), 1, 0, gv, gt, op, a, b, pa, fi, nx, yp, wn, wu, gn, ge, wv, yl, ya, ye, yk, yt, yc, yst, yf, yr, ou) (nI (112 * s + (h + K s (h + 1) - cz_ s))) (nI n) gt := by
    intro post K
    have c4 : oc n = 0 ∨ oc n = 1 ∨ oc n = 2 ∨ oc n = 3 := by omega
    rcases c4 with c | c | c | c
    · rw [c] at K; exact y_a0 h7 hw (by omega) (o_.trans (by rw [c]; rfl)) K
    · rw [c] at K; exact y_a1 h7 hw (by omega) (o_.trans (by rw [c]; rfl)) K
    · rw [c] at K; exact y_a2 h7 hw (by omega) (o_.trans (by rw [c]; rfl)) K
    · rw [c] at K; exact y_a3 h7 hw (by omega) (o_.trans (by rw [c]; rfl)) K
  have A : (∀ post : SX → Prop, wpX_raise post ((nI dep), (nI fu), xN, xL, (nI F), (nI V), (nI C), (nI s), (-1), cr, ec, en, ft, (nI q), (nI w), op, a, b, xp, fi, xl, nx, xo, fn, fe, vn, vo, vv, xst, xf, xr, xh, xc, fN, fX, fS, (upd fT (s * 128 + h) (nI (1 + 1))), (vp_updL fL ((s * 128 + h) * 4 + 1) cr), pv) 1 (nI n) → wpX_concludeArithmetic post ((nI dep), (nI fu), xN, xL, (nI F), (nI V), (nI C), (nI s), (-1), cr, ec, en, ft, (nI q), (nI w), op, a, b, xp, fi, xl, nx, xo, fn, fe, vn, vo, vv, xst, xf, xr, xh, xc, fN, fX, fS, (upd fT (s * 128 + h) (nI (1 + 1))), (vp_updL fL ((s * 128 + h) * 4 + 1) cr), pv) (nI (s * 128 + h)) (fL ((s * 128 + h) * 4))) → (∀ post : SY → Prop, wpY_raise post ((nI dep), (nI fu), yN, yi, yo, (nI V), (nI F), (nI C), (nI s), ft, (nI q), 0, 0, (-1), (nI w), 1, 0, gv, gt, op, a, b, pa, fi, nx, yp, wn, wu, gn, ge, wv, yl, ya, ye, yk, yt, yc, yst, yf, yr, ou) 1 (nI n) → wpY_arithmetic post ((nI dep), (nI fu), yN, yi, yo, (nI V), (nI F), (nI C), (nI s), ft, (nI q), 0, 0, (-1), (nI w), 1, 0, gv, gt, op, a, b, pa, fi, nx, yp, wn, wu, gn, ge, wv, yl, ya, ye, yk, yt, yc, yst, yf, yr, ou) (nI n) (nI (oc n)) (yk (3 * (112 * s + (h + K s (h + 1) - cz_ s)))) gt) → ∃ u2 v2 kx, xs_ (kx + 1) ((nI dep), (nI fu), xN, xL, (nI F), (nI V), (nI C), (nI s), (-2), cr, ec, en, ft, (nI q), (nI w), op, a, b, xp, fi, xl, nx, xo, fn, fe, vn, vo, vv, xst, xf, xr, xh, xc, fN, fX, fS, fT, fL, pv) u2 ∧ (∀ post : SY → Prop, post v2 → wpY_deliver post ((nI dep), (nI fu), yN, yi, yo, (nI V), (nI F), (nI C), (nI s), ft, (nI q), 0, 0, (-1), (nI w), 1, 0, gv, gt, op, a, b, pa, fi, nx, yp, wn, wu, gn, ge, wv, yl, ya, ye, yk, yt, yc, yst, yf, yr, ou) gt) ∧ cr_T op a b fi nx pa N oc pc E lv kd SC dep fu xN xL xp xl xo yN yi yo yp φ (kx + 1) u2 v2 := fun a1 a2 =>
    sA_raise ht hyp h1 g1 g2 g3 g4 g5 g6 g7 g8 g9 g10 g11 g12 g13 g14 g15 hn hT b1 b2 b3 b4 b5 b6 hk hv (Or.inl (by omega)) (by omega) 1 (fun post K => xC post (a1 post K)) (fun post K => yC post (a2 post K))
  rcases xy_num h1.1.1 h1.1.2.1 hv0 with ⟨m1, c1, c2, c3, c4, c5⟩ | ⟨c4, c5⟩
  · rcases xy_num h1.1.1 h1.1.2.1 hv with ⟨m2, d1, d2, d3, d4, d5⟩ | ⟨d4, d5⟩
    · refine sA_pop ht hyp h1 g1 g2 g3 g4 g5 g6 g7 g8 g9 g10 g11 g12 g13 g14 g15 hn hT b1 b2 b3 b4 b5 b6 hk hv (Or.inl (by omega)) (by omega) (x := lN (cv_n (ar_ (oc n) (nI m1) (nI m2)) + 4294967296)) (y := lN (cv_n (ar_ (oc n) (nI m1) (nI m2)))) (fun post K => xC post ?_) (fun post KK => yC post ?_) (cv_num _)
      · rw [c2]
        rw [c2] at c4
        rw [d2] at d4
        exact x_arN (by omega) g5 (by omega) o_ hd (by rw [pk_uLs, d2]) c4 d4 (x_fnum K)
      · have y1 : yk (3 * (112 * s + (h + K s (h + 1) - cz_ s))) = lN m1 := c3
        rw [y1]
        rw [y1] at c5
        have K2 := y_arN (n := n) hd (fun q hq => c5 q _ hq) (fun q hq => by rw [← d3]; exact d5 q _ hq) KK
        rw [← d3] at K2
        exact K2
    · exact A (fun post K => x_arR (by omega) g5 pk_uLs (Or.inr ⟨c4, d4⟩) K) (fun post K => y_arR (Or.inr ⟨fun q hq => c5 q _ hq, fun q hq => d5 q _ hq⟩) K)
  · exact A (fun post K => x_arR (by omega) g5 pk_uLs (Or.inl c4) K) (fun post K => y_arR (Or.inl (fun q hq => c5 q _ hq)) K)
theorem sA_same {n i e : Nat} (ht : (ct_all op a b fi nx pa N oc pc E lv kd SC)) (hyp : ∀ n, n < N → xp n = nI (pc n) ∧ yp n = nI (pc n)) (h1 : (cc_C N oc pc E lv kd a b SC F C V D K T fN fX fS fT fL yl ya ye yk P H dep xh xc yt yc fn fe gn ge vn vo vv wn wu wv xst xf xr yst yf yr Q k s h)) (g1 : n < N) (g2 : oc n < 19) (g3 : i < pc n) (g4 : e ≤ V) (g5 : fN (s * 128 + h) = nI n) (g6 : fT (s * 128 + h) = nI (ct_tk (oc n) i)) (g7 : fS (s * 128 + h) = nI e) (g8 : yl (112 * s + (h + K s (h + 1) - cz_ s)) = nI n) (g9 : ya (112 * s + (h + K s (h + 1) - cz_ s)) = nI i) (g10 : ye (112 * s + (h + K s (h + 1) - cz_ s)) = nI e - 1) (g11 : ∀ c, ct_in oc a b SC n i c → D e c) (g12 : cf_S F C (oc n) i (fun q => fL ((s * 128 + h) * 4 + q)) (fun q => yk (3 * (112 * s + (h + K s (h + 1) - cz_ s)) + q))) (g13 : K s (h + 1) = K s h + (if oc n = 10 then 1 else 0)) (g14 : cz_ s ≤ K s (h + 1)) (g15 : h + 1 + K s (h + 1) ≤ 16 * K s (h + 1) + lv n + cz_ s) (hn : fX (s * 128 + h) = ct_nx pc kd n (i + 1)) (hT : T s h + 4 * (E n - E (kd n i)) + 3 ≤ T s (h + 1)) (b1 : K s (h + 1) ≤ dep) (b2 : T s (h + 1) + 2 ≤ P s) (b3 : xh s = nI (h + 1)) (b4 : yt s = nI (h + 1 + K s (h + 1) - cz_ s)) (b5 : xc s = nI (K s (h + 1))) (b6 : yc s = nI (K s (h + 1))) (hk : (cr_K φ fu q w F C P pv ou)) (hv : cv_R F C cr gt) (hd : oc n = 4) : ∃ u2 v2 kx, xs_ (kx + 1) ((nI dep), (nI fu), xN, xL, (nI F), (nI V), (nI C), (nI s), (-2), cr, ec, en, ft, (nI q), (nI w), op, a, b, xp, fi, xl, nx, xo, fn, fe, vn, vo, vv, xst, xf, xr, xh, xc, fN, fX, fS, fT, fL, pv) u2 ∧ (∀ post : SY → Prop, post v2 → wpY_deliver post ((nI dep), (nI fu), yN, yi, yo, (nI V), (nI F), (nI C), (nI s), ft, (nI q), 0, 0, (-1), (nI w), 1, 0, gv, gt, op, a, b, pa, fi, nx, yp, wn, wu, gn, ge, wv, yl, ya, ye, yk, yt, yc, yst, yf, yr, ou) gt) ∧ cr_T op a b fi nx pa N oc pc E lv kd SC dep fu xN xL xp xl xo yN yi yo yp φ (kx + 1) u2 v2 := by
  have h7 := (cc_s h1).2
  have h6 := cc_dep h1
  have hKK : K s h ≤ K s (h + 1) := by omega
  have hh := cf_h ht (cc_FR h1) (by omega)
  have hN := ht.2.1
  have hl := (ht.2.2.2.2 n g1).2.2.2.1.2 (by omega)
  have hzl := cz_le s
  have hw : h + K s (h + 1) - cz_ s < 112 := by omega
  have o_ : op n = nI (oc n) := ct_op ht g1 rfl
  have b4' : yt s = nI (h + K s (h + 1) - cz_ s + 1) := by rw [b4]; exact congrArg nI (by omega)
  have hpn := (ht.2.2.2.2 n g1).1.2.2.2
  have yp_ := (hyp n g1).2
  have hEn := ct_E ht g1
  have hkd := (ht.2.2.2.2 n g1).2.2.2.2.2.1
  have h10 : oc n ≠ 10 := by omega
  have hK0 : K s (h + 1) = K s h := by rw [g13, if_neg h10]; rfl
  have b4p : yt s = nI (h + K s h - cz_ s + 1) := by rw [← hK0]; exact b4'
  have g8p : yl (112 * s + (h + K s h - cz_ s)) = nI n := by rw [← hK0]; exact g8
  have b1p : K s h ≤ dep := by omega
  have b5p : xc s = nI (K s h) := by rw [← hK0]; exact b5
  have b6p : yc s = nI (K s h) := by rw [← hK0]; exact b6
  have hwp : h + K s h - cz_ s < 112 := by omega
  have hsh : 1 ≤ s → 1 ≤ h := fun hs1 => by
    have z1 := cz_1 hs1
    rcases Nat.eq_zero_or_pos h with hz | hz
    · subst hz
      have := h1.2.1 s
      omega
    · exact hz
  have hp2 : pc n = 2 := by
    have h3 := ct_mn' ht g1
    rw [hd] at h3
    have e1 : ct_mx 4 = 2 := rfl
    have e2 : ct_mn 4 = 2 := rfl
    omega
  by_cases hlt : i + 1 < pc n
  · exact sA_Dn ht hyp h1 g1 g2 g3 g4 g5 g6 g7 g8 g9 g10 g11 g12 g13 g14 g15 hn hT b1 b2 b3 b4 b5 b6 hk hv (Or.inl (by omega)) hlt
  obtain rfl : i = 1 := by omega
  have h2 := cc_tk (n := n) (i := 1) (x := cr) ht h1 b1p (by omega)
  have hv0 : cv_R F C (fL ((s * 128 + h) * 4)) (yk (3 * (112 * s + (h + K s (h + 1) - cz_ s)))) := g12.2 (by omega) 0 (by omega) (by omega)
  have e0 : vp_updL fL ((s * 128 + h) * 4 + 1) cr ((s * 128 + h) * 4) = fL ((s * 128 + h) * 4) := pk_uLn (by omega)
  have hEq : (fL ((s * 128 + h) * 4) = cr) ↔ (yk (3 * (112 * s + (h + K s (h + 1) - cz_ s))) = gt) := by
    obtain ⟨y1, p1, p2, p3⟩ := hv0
    obtain ⟨y2, r1, r2, r3⟩ := hv
    have l1 := cv_lt h1.1.1 h1.1.2.1 p1
    have l2 := cv_lt h1.1.1 h1.1.2.1 r1
    have m1 := cv_Xlt l1
    have m2 := cv_Xlt l2
    rw [p2, p3, r2, r3, vo_eq m1 m2, vo_eq (by omega) (by omega)]
    exact ⟨fun h => cv_inj h1.1.1 h1.1.2.1 p1 r1 h, fun h => by rw [h]⟩
  have o4 : op n = 4 := o_.trans (by rw [hd]; rfl)
  by_cases hE : fL ((s * 128 + h) * 4) = cr
  · refine sA_pop ht hyp h1 g1 g2 g3 g4 g5 g6 g7 g8 g9 g10 g11 g12 g13 g14 g15 hn hT b1 b2 b3 b4 b5 b6 hk hv (Or.inl (by omega)) (by omega) (x := lN (cv_n 1 + 4294967296)) (y := 1) (fun post K => x_c4 h7 (by omega) g5 (by omega) o4 ?_) (fun post K => y_a4 h7 hw (by omega) o4 ?_) (cv_num 1)
    · rw [e0, pk_uLs, if_pos hE]; exact x_fnum K
    · rw [if_pos (hEq.mp hE)]; exact K
  · refine sA_pop ht hyp h1 g1 g2 g3 g4 g5 g6 g7 g8 g9 g10 g11 g12 g13 g14 g15 hn hT b1 b2 b3 b4 b5 b6 hk hv (Or.inl (by omega)) (by omega) (x := lN (cv_n 0 + 4294967296)) (y := 0) (fun post K => x_c4 h7 (by omega) g5 (by omega) o4 ?_) (fun post K => y_a4 h7 hw (by omega) o4 ?_) (cv_num 0)
    · rw [e0, pk_uLs, if_neg hE]; exact x_fnum K
    · rw [if_neg (fun h => hE (hEq.mpr h))]; exact K
theorem ct_p1 {n : Nat} (ht : (ct_all op a b fi nx pa N oc pc E lv kd SC)) (g1 : n < N) (hd : oc n = 9 ∨ oc n = 12 ∨ oc n = 13 ∨ oc n = 14 ∨ oc n = 15 ∨ oc n = 17 ∨ oc n = 18) : pc n = 1 := by
  have h3 := ct_mn' ht g1
  have e1 : ct_mx (oc n) = 1 := by
    unfold ct_mx
    rw [if_neg (by omega), if_neg (by omega), if_neg (by omega), if_neg (by omega), if_neg (by omega)]
  have e2 : ct_mn (oc n) = 1 := by unfold ct_mn; rw [if_neg (by omega), if_neg (by omega)]; exact e1
  omega
theorem sA_set {n i e : Nat} (ht : (ct_all op a b fi nx pa N oc pc E lv kd SC)) (hyp : ∀ n, n < N → xp n = nI (pc n) ∧ yp n = nI (pc n)) (h1 : (cc_C N oc pc E lv kd a b SC F C V D K T fN fX fS fT fL yl ya ye yk P H dep xh xc yt yc fn fe gn ge vn vo vv wn wu wv xst xf xr yst yf yr Q k s h)) (g1 : n < N) (g2 : oc n < 19) (g3 : i < pc n) (g4 : e ≤ V) (g5 : fN (s * 128 + h) = nI n) (g6 : fT (s * 128 + h) = nI (ct_tk (oc n) i)) (g7 : fS (s * 128 + h) = nI e) (g8 : yl (112 * s + (h + K s (h + 1) - cz_ s)) = nI n) (g9 : ya (112 * s + (h + K s (h + 1) - cz_ s)) = nI i) (g10 : ye (112 * s + (h + K s (h + 1) - cz_ s)) = nI e - 1) (g11 : ∀ c, ct_in oc a b SC n i c → D e c) (g12 : cf_S F C (oc n) i (fun q => fL ((s * 128 + h) * 4 + q)) (fun q => yk (3 * (112 * s + (h + K s (h + 1) - cz_ s)) + q))) (g13 : K s (h + 1) = K s h + (if oc n = 10 then 1 else 0)) (g14 : cz_ s ≤ K s (h + 1)) (g15 : h + 1 + K s (h + 1) ≤ 16 * K s (h + 1) + lv n + cz_ s) (hn : fX (s * 128 + h) = ct_nx pc kd n (i + 1)) (hT : T s h + 4 * (E n - E (kd n i)) + 3 ≤ T s (h + 1)) (b1 : K s (h + 1) ≤ dep) (b2 : T s (h + 1) + 2 ≤ P s) (b3 : xh s = nI (h + 1)) (b4 : yt s = nI (h + 1 + K s (h + 1) - cz_ s)) (b5 : xc s = nI (K s (h + 1))) (b6 : yc s = nI (K s (h + 1))) (hk : (cr_K φ fu q w F C P pv ou)) (hv : cv_R F C cr gt) (hd : oc n = 9) : ∃ u2 v2 kx, xs_ (kx + 1) ((nI dep), (nI fu), xN, xL, (nI F), (nI V), (nI C), (nI s), (-2), cr, ec, en, ft, (nI q), (nI w), op, a, b, xp, fi, xl, nx, xo, fn, fe, vn, vo, vv, xst, xf, xr, xh, xc, fN, fX, fS, fT, fL, pv) u2 ∧ (∀ post : SY → Prop, post v2 → wpY_deliver post ((nI dep), (nI fu), yN, yi, yo, (nI V), (nI F), (nI C), (nI s), ft, (nI q), 0, 0, (-1), (nI w), 1, 0, gv, gt, op, a, b, pa, fi, nx, yp, wn, wu, gn, ge, wv, yl, ya, ye, yk, yt, yc, yst, yf, yr, ou) gt) ∧ cr_T op a b fi nx pa N oc pc E lv kd SC dep fu xN xL xp xl xo yN yi yo yp φ (kx + 1) u2 v2 := by
  have h7 := (cc_s h1).2
  have h6 := cc_dep h1
  have hKK : K s h ≤ K s (h + 1) := by omega
  have hh := cf_h ht (cc_FR h1) (by omega)
  have hN := ht.2.1
  have hl := (ht.2.2.2.2 n g1).2.2.2.1.2 (by omega)
  have hzl := cz_le s
  have hw : h + K s (h + 1) - cz_ s < 112 := by omega
  have o_ : op n = nI (oc n) := ct_op ht g1 rfl
  have b4' : yt s = nI (h + K s (h + 1) - cz_ s + 1) := by rw [b4]; exact congrArg nI (by omega)
  have hpn := (ht.2.2.2.2 n g1).1.2.2.2
  have yp_ := (hyp n g1).2
  have hEn := ct_E ht g1
  have hkd := (ht.2.2.2.2 n g1).2.2.2.2.2.1
  have h10 : oc n ≠ 10 := by omega
  have hK0 : K s (h + 1) = K s h := by rw [g13, if_neg h10]; rfl
  have b4p : yt s = nI (h + K s h - cz_ s + 1) := by rw [← hK0]; exact b4'
  have g8p : yl (112 * s + (h + K s h - cz_ s)) = nI n := by rw [← hK0]; exact g8
  have b1p : K s h ≤ dep := by omega
  have b5p : xc s = nI (K s h) := by rw [← hK0]; exact b5
  have b6p : yc s = nI (K s h) := by rw [← hK0]; exact b6
  have hwp : h + K s h - cz_ s < 112 := by omega
  have hsh : 1 ≤ s → 1 ≤ h := fun hs1 => by
    have z1 := cz_1 hs1
    rcases Nat.eq_zero_or_pos h with hz | hz
    · subst hz
      have := h1.2.1 s
      omega
    · exact hz
  have hp1 := ct_p1 ht g1 (Or.inl hd)
  obtain rfl : i = 0 := by omega
  have h2 := cc_tk (n := n) (i := 0) (x := cr) ht h1 b1p (by omega)
  have o9 : op n = 9 := o_.trans (by rw [hd]; rfl)
  have hS := (ht.2.2.2.2 n g1).2.2.1 (Or.inr hd)
  have hV2 := h1.1.2.2.1
  obtain ⟨p, hp, hX, hY⟩ := xy_find (c := a n) (ph := -1) (hs := 0) (ec := ec) (en := en) (ft := ft) (cr := cr) (gv := gv) (gt := gt) (fu := fu) (xN := xN) (xL := xL) (xp := xp) (xl := xl) (xo := xo) (yN := yN) (yi := yi) (yo := yo) (yp := yp) (q := q) (w := w) (pv := pv) (ou := ou) (dep := dep) (s := s) (op := op) (a := a) (b := b) (fi := fi) (nx := nx) (pa := pa) (fn := fn) (fe := fe) (gn := gn) (ge := ge) (xst := xst) (xf := xf) (xr := xr) (xh := xh) (xc := xc) (fN := fN) (fX := fX) (fS := fS) (fT := upd fT (s * 128 + h) (nI (0 + 1))) (fL := vp_updL fL ((s * 128 + h) * 4 + 0) cr) (yl := yl) (ya := ya) (ye := ye) (yk := yk) (yt := yt) (yc := yc) (yst := yst) (yf := yf) (yr := yr) h1.2.2.1 hV2 e g4 (g11 _ (Or.inl hS))
  have h3 : (cc_C N oc pc E lv kd a b SC F C V D K T fN fX fS (upd fT (s * 128 + h) (nI (0 + 1))) (vp_updL fL ((s * 128 + h) * 4 + 0) cr) yl ya ye yk P H dep xh xc yt yc fn fe gn ge vn vo (vp_updL vv (p + 1) cr) wn wu (vp_updL wv p gt) xst xf xr yst yf yr Q k s h) := by
    have g := h2
    obtain ⟨⟨q1, q2, q3, q4, q5, q6⟩, gK, gV, gF, _⟩ := g
    exact cc_go ht h2 (by omega) (by omega) (Nat.le_refl _) q1 (Nat.le_refl _) q3 (fun _ _ _ h => h) (cd_V_set gV hp hv) gF (fun _ _ => rfl) (fun _ _ _ => rfl) (fun _ _ _ => rfl) ca_r ca_r ca_r ca_r ca_r ca_r ca_r ca_r ca_r ca_r ca_r ca_r ca_r ca_r ca_r
  have xF : ∀ post : SX → Prop, post ((nI dep), (nI fu), xN, xL, (nI F), (nI V), (nI C), (nI s), (-2), cr, ec, en, ft, (nI q), (nI w), op, a, b, xp, fi, xl, nx, xo, fn, fe, vn, vo, (vp_updL vv (p + 1) cr), xst, xf, xr, (upd xh s (nI h)), xc, fN, fX, fS, (upd fT (s * 128 + h) (nI (0 + 1))), (vp_updL fL ((s * 128 + h) * 4 + 0) cr), pv) → wpX_conclude post ((nI dep), (nI fu), xN, xL, (nI F), (nI V), (nI C), (nI s), (-1), cr, ec, en, ft, (nI q), (nI w), op, a, b, xp, fi, xl, nx, xo, fn, fe, vn, vo, vv, xst, xf, xr, xh, xc, fN, fX, fS, (upd fT (s * 128 + h) (nI (0 + 1))), (vp_updL fL ((s * 128 + h) * 4 + 0) cr), pv) (nI (s * 128 + h)) := by
    intro post K
    refine x_c9 h7 (by omega) g5 (by omega) o9 ?_
    rw [show vp_updL fL ((s * 128 + h) * 4 + 0) cr ((s * 128 + h) * 4) = cr from pk_uLs]
    exact x_set h7 (by omega) b3 g5 (by omega) (by omega) (fun q' hq' => by rw [g7]; exact ⟨_, hX q' 0 0 (by omega) hq'⟩) K
  have yF' : ∀ post : SY → Prop, post ((nI dep), (nI fu), yN, yi, yo, (nI V), (nI F), (nI C), (nI s), ft, (nI q), 0, 0, (-1), (nI w), 1, 1, gv, gt, op, a, b, pa, fi, nx, yp, wn, wu, gn, ge, (vp_updL wv p gt), yl, ya, ye, yk, (upd yt s (nI (h + K s h - cz_ s))), yc, yst, yf, yr, ou) → wpY_apply post ((nI dep), (nI fu), yN, yi, yo, (nI V), (nI F), (nI C), (nI s), ft, (nI q), 0, 0, (-1), (nI w), 1, 0, gv, gt, op, a, b, pa, fi, nx, yp, wn, wu, gn, ge, wv, yl, ya, ye, yk, yt, yc, yst, yf, yr, ou) (nI (112 * s + (h + K s (h + 1) - cz_ s))) (nI n) gt := by
    intro post KK
    rw [hK0]
    refine y_a9 h7 hwp (by omega) o9 (by omega) ?_ b4p g8p KK
    intro q' hq'
    have g10p : ye (112 * s + (h + K s h - cz_ s)) = nI e - 1 := by rw [← hK0]; exact g10
    rw [g10p]
    exact ⟨_, hY q' 0 hq'⟩
  exact sA_ap ht hyp h1 g1 g2 g3 g4 g5 g6 g7 g8 g9 g10 g11 g12 g13 g14 g15 hn hT b1 b2 b3 b4 b5 b6 hk hv (Or.inr (Or.inr hd)) (by omega) xF (xs_0 _) yF' (cr_pop ht h3 b1p b5p b6p hsh hk (by omega) hv)
theorem sA_err {n i e : Nat} (ht : (ct_all op a b fi nx pa N oc pc E lv kd SC)) (hyp : ∀ n, n < N → xp n = nI (pc n) ∧ yp n = nI (pc n)) (h1 : (cc_C N oc pc E lv kd a b SC F C V D K T fN fX fS fT fL yl ya ye yk P H dep xh xc yt yc fn fe gn ge vn vo vv wn wu wv xst xf xr yst yf yr Q k s h)) (g1 : n < N) (g2 : oc n < 19) (g3 : i < pc n) (g4 : e ≤ V) (g5 : fN (s * 128 + h) = nI n) (g6 : fT (s * 128 + h) = nI (ct_tk (oc n) i)) (g7 : fS (s * 128 + h) = nI e) (g8 : yl (112 * s + (h + K s (h + 1) - cz_ s)) = nI n) (g9 : ya (112 * s + (h + K s (h + 1) - cz_ s)) = nI i) (g10 : ye (112 * s + (h + K s (h + 1) - cz_ s)) = nI e - 1) (g11 : ∀ c, ct_in oc a b SC n i c → D e c) (g12 : cf_S F C (oc n) i (fun q => fL ((s * 128 + h) * 4 + q)) (fun q => yk (3 * (112 * s + (h + K s (h + 1) - cz_ s)) + q))) (g13 : K s (h + 1) = K s h + (if oc n = 10 then 1 else 0)) (g14 : cz_ s ≤ K s (h + 1)) (g15 : h + 1 + K s (h + 1) ≤ 16 * K s (h + 1) + lv n + cz_ s) (hn : fX (s * 128 + h) = ct_nx pc kd n (i + 1)) (hT : T s h + 4 * (E n - E (kd n i)) + 3 ≤ T s (h + 1)) (b1 : K s (h + 1) ≤ dep) (b2 : T s (h + 1) + 2 ≤ P s) (b3 : xh s = nI (h + 1)) (b4 : yt s = nI (h + 1 + K s (h + 1) - cz_ s)) (b5 : xc s = nI (K s (h + 1))) (b6 : yc s = nI (K s (h + 1))) (hk : (cr_K φ fu q w F C P pv ou)) (hv : cv_R F C cr gt) (hd : oc n = 13) : ∃ u2 v2 kx, xs_ (kx + 1) ((nI dep), (nI fu), xN, xL, (nI F), (nI V), (nI C), (nI s), (-2), cr, ec, en, ft, (nI q), (nI w), op, a, b, xp, fi, xl, nx, xo, fn, fe, vn, vo, vv, xst, xf, xr, xh, xc, fN, fX, fS, fT, fL, pv) u2 ∧ (∀ post : SY → Prop, post v2 → wpY_deliver post ((nI dep), (nI fu), yN, yi, yo, (nI V), (nI F), (nI C), (nI s), ft, (nI q), 0, 0, (-1), (nI w), 1, 0, gv, gt, op, a, b, pa, fi, nx, yp, wn, wu, gn, ge, wv, yl, ya, ye, yk, yt, yc, yst, yf, yr, ou) gt) ∧ cr_T op a b fi nx pa N oc pc E lv kd SC dep fu xN xL xp xl xo yN yi yo yp φ (kx + 1) u2 v2 := by
  have h7 := (cc_s h1).2
  have h6 := cc_dep h1
  have hKK : K s h ≤ K s (h + 1) := by omega
  have hh := cf_h ht (cc_FR h1) (by omega)
  have hN := ht.2.1
  have hl := (ht.2.2.2.2 n g1).2.2.2.1.2 (by omega)
  have hzl := cz_le s
  have hw : h + K s (h + 1) - cz_ s < 112 := by omega
  have o_ : op n = nI (oc n) := ct_op ht g1 rfl
  have b4' : yt s = nI (h + K s (h + 1) - cz_ s + 1) := by rw [b4]; exact congrArg nI (by omega)
  have hpn := (ht.2.2.2.2 n g1).1.2.2.2
  have yp_ := (hyp n g1).2
  have hEn := ct_E ht g1
  have hkd := (ht.2.2.2.2 n g1).2.2.2.2.2.1
  have hp1 := ct_p1 ht g1 (Or.inr (Or.inr (Or.inl hd)))
  obtain rfl : i = 0 := by omega
  have o13 : op n = 13 := o_.trans (by rw [hd]; rfl)
  have e0 : vp_updL fL ((s * 128 + h) * 4 + 0) cr ((s * 128 + h) * 4) = cr := pk_uLs
  rcases xy_num h1.1.1 h1.1.2.1 hv with ⟨m2, d1, d2, d3, d4, d5⟩ | ⟨d4, d5⟩
  · have i1 : cr.toInt32 = nI m2 := by rw [d2, vo_i1]
    have i2 : gt.toInt32 = nI m2 := by rw [d3, lN_i]
    refine sA_raise ht hyp h1 g1 g2 g3 g4 g5 g6 g7 g8 g9 g10 g11 g12 g13 g14 g15 hn hT b1 b2 b3 b4 b5 b6 hk hv (Or.inr (Or.inl (by omega))) (by omega) (nI m2) (fun post K => x_c13 h7 (by omega) g5 (by omega) o13 ?_) (fun post K => y_a13b h7 hw (by omega) o13 (fun q hq => d5 q _ hq) ?_)
    · rw [e0]; exact x_errB (by omega) g5 d4 (by rw [i1]; exact K)
    · rw [i2]; exact K
  · refine sA_raise ht hyp h1 g1 g2 g3 g4 g5 g6 g7 g8 g9 g10 g11 g12 g13 g14 g15 hn hT b1 b2 b3 b4 b5 b6 hk hv (Or.inr (Or.inl (by omega))) (by omega) 1 (fun post K => x_c13 h7 (by omega) g5 (by omega) o13 ?_) (fun post K => y_a13a h7 hw (by omega) o13 (fun q hq => d5 q _ hq) K)
    rw [e0]; exact x_errA (by omega) g5 d4 K
theorem sA_stat {n i e : Nat} (ht : (ct_all op a b fi nx pa N oc pc E lv kd SC)) (hyp : ∀ n, n < N → xp n = nI (pc n) ∧ yp n = nI (pc n)) (h1 : (cc_C N oc pc E lv kd a b SC F C V D K T fN fX fS fT fL yl ya ye yk P H dep xh xc yt yc fn fe gn ge vn vo vv wn wu wv xst xf xr yst yf yr Q k s h)) (g1 : n < N) (g2 : oc n < 19) (g3 : i < pc n) (g4 : e ≤ V) (g5 : fN (s * 128 + h) = nI n) (g6 : fT (s * 128 + h) = nI (ct_tk (oc n) i)) (g7 : fS (s * 128 + h) = nI e) (g8 : yl (112 * s + (h + K s (h + 1) - cz_ s)) = nI n) (g9 : ya (112 * s + (h + K s (h + 1) - cz_ s)) = nI i) (g10 : ye (112 * s + (h + K s (h + 1) - cz_ s)) = nI e - 1) (g11 : ∀ c, ct_in oc a b SC n i c → D e c) (g12 : cf_S F C (oc n) i (fun q => fL ((s * 128 + h) * 4 + q)) (fun q => yk (3 * (112 * s + (h + K s (h + 1) - cz_ s)) + q))) (g13 : K s (h + 1) = K s h + (if oc n = 10 then 1 else 0)) (g14 : cz_ s ≤ K s (h + 1)) (g15 : h + 1 + K s (h + 1) ≤ 16 * K s (h + 1) + lv n + cz_ s) (hn : fX (s * 128 + h) = ct_nx pc kd n (i + 1)) (hT : T s h + 4 * (E n - E (kd n i)) + 3 ≤ T s (h + 1)) (b1 : K s (h + 1) ≤ dep) (b2 : T s (h + 1) + 2 ≤ P s) (b3 : xh s = nI (h + 1)) (b4 : yt s = nI (h + 1 + K s (h + 1) - cz_ s)) (b5 : xc s = nI (K s (h + 1))) (b6 : yc s = nI (K s (h + 1))) (hk : (cr_K φ fu q w F C P pv ou)) (hv : cv_R F C cr gt) (hd : oc n = 18) : ∃ u2 v2 kx, xs_ (kx + 1) ((nI dep), (nI fu), xN, xL, (nI F), (nI V), (nI C), (nI s), (-2), cr, ec, en, ft, (nI q), (nI w), op, a, b, xp, fi, xl, nx, xo, fn, fe, vn, vo, vv, xst, xf, xr, xh, xc, fN, fX, fS, fT, fL, pv) u2 ∧ (∀ post : SY → Prop, post v2 → wpY_deliver post ((nI dep), (nI fu), yN, yi, yo, (nI V), (nI F), (nI C), (nI s), ft, (nI q), 0, 0, (-1), (nI w), 1, 0, gv, gt, op, a, b, pa, fi, nx, yp, wn, wu, gn, ge, wv, yl, ya, ye, yk, yt, yc, yst, yf, yr, ou) gt) ∧ cr_T op a b fi nx pa N oc pc E lv kd SC dep fu xN xL xp xl xo yN yi yo yp φ (kx + 1) u2 v2 := by
  have h7 := (cc_s h1).2
  have h6 := cc_dep h1
  have hKK : K s h ≤ K s (h + 1) := by omega
  have hh := cf_h ht (cc_FR h1) (by omega)
  have hN := ht.2.1
  have hl := (ht.2.2.2.2 n g1).2.2.2.1.2 (by omega)
  have hzl := cz_le s
  have hw : h + K s (h + 1) - cz_ s < 112 := by omega
  have o_ : op n = nI (oc n) := ct_op ht g1 rfl
  have b4' : yt s = nI (h + K s (h + 1) - cz_ s + 1) := by rw [b4]; exact congrArg nI (by omega)
  have hpn := (ht.2.2.2.2 n g1).1.2.2.2
  have yp_ := (hyp n g1).2
  have hEn := ct_E ht g1
  have hkd := (ht.2.2.2.2 n g1).2.2.2.2.2.1
  have hp1 := ct_p1 ht g1 (by omega)
  obtain rfl : i = 0 := by omega
  have o18 : op n = 18 := o_.trans (by rw [hd]; rfl)
  have e0 : vp_updL fL ((s * 128 + h) * 4 + 0) cr ((s * 128 + h) * 4) = cr := pk_uLs
  rcases xy_co h1.1.1 h1.1.2.1 hv with ⟨c, c1, c2, c3, c4, c5⟩ | ⟨⟨kk, c1, c2⟩, c3⟩
  · have hC6 := h1.1.2.1
    obtain ⟨⟨w', w1, w2, w3⟩, _, _⟩ := h1.2.2.2.2.2.2.1 (c + 1) (by omega) (by omega)
    refine sA_pop ht hyp h1 g1 g2 g3 g4 g5 g6 g7 g8 g9 g10 g11 g12 g13 g14 g15 hn hT b1 b2 b3 b4 b5 b6 hk hv (Or.inr (Or.inl (by omega))) (by omega) (x := lN (cv_n (nI w') + 4294967296)) (y := lN (cv_n (nI w'))) (fun post K => x_c18 h7 (by omega) g5 (by omega) o18 ?_) (fun post K => ?_) (cv_num _)
    · rw [e0]
      exact x_statB (c := c) (by omega) (by rw [c2, vo_i3]) c4 (by rw [w2]; exact x_fnum K)
    · refine y_a18b (c := c) h7 hw (by omega) o18 (by omega) c5 (by rw [c3, vo_y3]) ?_
      rw [w3, vo_st (by omega)]; exact K
  · refine sA_raise ht hyp h1 g1 g2 g3 g4 g5 g6 g7 g8 g9 g10 g11 g12 g13 g14 g15 hn hT b1 b2 b3 b4 b5 b6 hk hv (Or.inr (Or.inl (by omega))) (by omega) 2 (fun post K => x_c18 h7 (by omega) g5 (by omega) o18 ?_) (fun post K => y_a18a h7 hw (by omega) o18 c3 K)
    rw [e0]; exact x_statA (by omega) g5 c1 c2 K
theorem sA_yield {n i e : Nat} (ht : (ct_all op a b fi nx pa N oc pc E lv kd SC)) (hyp : ∀ n, n < N → xp n = nI (pc n) ∧ yp n = nI (pc n)) (h1 : (cc_C N oc pc E lv kd a b SC F C V D K T fN fX fS fT fL yl ya ye yk P H dep xh xc yt yc fn fe gn ge vn vo vv wn wu wv xst xf xr yst yf yr Q k s h)) (g1 : n < N) (g2 : oc n < 19) (g3 : i < pc n) (g4 : e ≤ V) (g5 : fN (s * 128 + h) = nI n) (g6 : fT (s * 128 + h) = nI (ct_tk (oc n) i)) (g7 : fS (s * 128 + h) = nI e) (g8 : yl (112 * s + (h + K s (h + 1) - cz_ s)) = nI n) (g9 : ya (112 * s + (h + K s (h + 1) - cz_ s)) = nI i) (g10 : ye (112 * s + (h + K s (h + 1) - cz_ s)) = nI e - 1) (g11 : ∀ c, ct_in oc a b SC n i c → D e c) (g12 : cf_S F C (oc n) i (fun q => fL ((s * 128 + h) * 4 + q)) (fun q => yk (3 * (112 * s + (h + K s (h + 1) - cz_ s)) + q))) (g13 : K s (h + 1) = K s h + (if oc n = 10 then 1 else 0)) (g14 : cz_ s ≤ K s (h + 1)) (g15 : h + 1 + K s (h + 1) ≤ 16 * K s (h + 1) + lv n + cz_ s) (hn : fX (s * 128 + h) = ct_nx pc kd n (i + 1)) (hT : T s h + 4 * (E n - E (kd n i)) + 3 ≤ T s (h + 1)) (b1 : K s (h + 1) ≤ dep) (b2 : T s (h + 1) + 2 ≤ P s) (b3 : xh s = nI (h + 1)) (b4 : yt s = nI (h + 1 + K s (h + 1) - cz_ s)) (b5 : xc s = nI (K s (h + 1))) (b6 : yc s = nI (K s (h + 1))) (hk : (cr_K φ fu q w F C P pv ou)) (hv : cv_R F C cr gt) (hd : oc n = 17) : ∃ u2 v2 kx, xs_ (kx + 1) ((nI dep), (nI fu), xN, xL, (nI F), (nI V), (nI C), (nI s), (-2), cr, ec, en, ft, (nI q), (nI w), op, a, b, xp, fi, xl, nx, xo, fn, fe, vn, vo, vv, xst, xf, xr, xh, xc, fN, fX, fS, fT, fL, pv) u2 ∧ (∀ post : SY → Prop, post v2 → wpY_deliver post ((nI dep), (nI fu), yN, yi, yo, (nI V), (nI F), (nI C), (nI s), ft, (nI q), 0, 0, (-1), (nI w), 1, 0, gv, gt, op, a, b, pa, fi, nx, yp, wn, wu, gn, ge, wv, yl, ya, ye, yk, yt, yc, yst, yf, yr, ou) gt) ∧ cr_T op a b fi nx pa N oc pc E lv kd SC dep fu xN xL xp xl xo yN yi yo yp φ (kx + 1) u2 v2 := by
  have h7 := (cc_s h1).2
  have h6 := cc_dep h1
  have hKK : K s h ≤ K s (h + 1) := by omega
  have hh := cf_h ht (cc_FR h1) (by omega)
  have hN := ht.2.1
  have hl := (ht.2.2.2.2 n g1).2.2.2.1.2 (by omega)
  have hzl := cz_le s
  have hw : h + K s (h + 1) - cz_ s < 112 := by omega
  have o_ : op n = nI (oc n) := ct_op ht g1 rfl
  have b4' : yt s = nI (h + K s (h + 1) - cz_ s + 1) := by rw [b4]; exact congrArg nI (by omega)
  have hpn := (ht.2.2.2.2 n g1).1.2.2.2
  have yp_ := (hyp n g1).2
  have hEn := ct_E ht g1
  have hkd := (ht.2.2.2.2 n g1).2.2.2.2.2.1
  have h10 : oc n ≠ 10 := by omega
  have hK0 : K s (h + 1) = K s h := by rw [g13, if_neg h10]; rfl
  have b4p : yt s = nI (h + K s h - cz_ s + 1) := by rw [← hK0]; exact b4'
  have g8p : yl (112 * s + (h + K s h - cz_ s)) = nI n := by rw [← hK0]; exact g8
  have b1p : K s h ≤ dep := by omega
  have b5p : xc s = nI (K s h) := by rw [← hK0]; exact b5
  have b6p : yc s = nI (K s h) := by rw [← hK0]; exact b6
  have hwp : h + K s h - cz_ s < 112 := by omega
  have hsh : 1 ≤ s → 1 ≤ h := fun hs1 => by
    have z1 := cz_1 hs1
    rcases Nat.eq_zero_or_pos h with hz | hz
    · subst hz
      have := h1.2.1 s
      omega
    · exact hz
  have hp1 := ct_p1 ht g1 (by omega)
  obtain rfl : i = 0 := by omega
  have o17 : op n = 17 := o_.trans (by rw [hd]; rfl)
  have e0 : vp_updL fL ((s * 128 + h) * 4 + 0) cr ((s * 128 + h) * 4) = cr := pk_uLs
  rcases Nat.eq_zero_or_pos s with hz | hz
  · refine sA_raise ht hyp h1 g1 g2 g3 g4 g5 g6 g7 g8 g9 g10 g11 g12 g13 g14 g15 hn hT b1 b2 b3 b4 b5 b6 hk hv (Or.inr (Or.inl (by omega))) (by omega) 6 (fun post K => x_c17 h7 (by omega) g5 (by omega) o17 ?_) (fun post K => y_a17a h7 hw (by omega) o17 hz K)
    rw [e0]
    subst hz
    exact x_yieldA (by omega) g5 K
  · have h2 := cc_tk (n := n) (i := 0) (x := cr) ht h1 b1p (by omega)
    have hzK := cf_z ht (cc_FR h1) (by omega) hsh
    have h3 : (cc_C N oc pc E lv kd a b SC F C V D K T fN fX fS (upd fT (s * 128 + h) (nI (0 + 1))) (vp_updL fL ((s * 128 + h) * 4 + 0) cr) yl ya ye yk (ch_ P s (T s h + 2)) H dep xh xc yt yc fn fe gn ge vn vo vv wn wu wv xst xf xr yst yf yr Q k s h) := cc_fr ht h2 (by omega) (by omega) (fun _ _ _ => rfl) (fun _ _ _ => rfl) ca_r ca_r ca_r ca_r ca_r ca_r ca_r ca_r ca_r ca_c ca_r ca_r ca_r ca_r
    obtain ⟨r, j, e1, e2, e3, e4, e5, e6, e7, e8⟩ := cr_leave (m := T s h + 2) (wd := 0) (d := 2) (ft := ft) (ec := ec) (en := en) (gv := gv) (xN := xN) (xL := xL) (xp := xp) (xl := xl) (xo := xo) (yN := yN) (yi := yi) (yo := yo) (yp := yp) ht h2 b1p hk hz (Or.inl rfl) (by omega) (fun _ => cs_S_mk (n := n) h3 b1p (by rw [cz_1 hz]; exact hsh hz) (by rw [ch_s]; omega) (by omega) hzK b3 (by rw [b4, hK0]) b5p b6p g1 (by omega) g8p) hv
    refine sA_ap ht hyp h1 g1 g2 g3 g4 g5 g6 g7 g8 g9 g10 g11 g12 g13 g14 g15 hn hT b1 b2 b3 b4 b5 b6 hk hv (Or.inr (Or.inl (by omega))) (by omega) (fun post K => x_c17 h7 (by omega) g5 (by omega) o17 (by rw [e0]; exact x_yieldB hz h7 e1 e3 e5 K)) (xs_0 _) (fun post K => y_a17b h7 hw (by omega) o17 hz (y_leave h7 e1 e4 e6 K)) e8
theorem sA_print {n i e : Nat} (ht : (ct_all op a b fi nx pa N oc pc E lv kd SC)) (hyp : ∀ n, n < N → xp n = nI (pc n) ∧ yp n = nI (pc n)) (h1 : (cc_C N oc pc E lv kd a b SC F C V D K T fN fX fS fT fL yl ya ye yk P H dep xh xc yt yc fn fe gn ge vn vo vv wn wu wv xst xf xr yst yf yr Q k s h)) (g1 : n < N) (g2 : oc n < 19) (g3 : i < pc n) (g4 : e ≤ V) (g5 : fN (s * 128 + h) = nI n) (g6 : fT (s * 128 + h) = nI (ct_tk (oc n) i)) (g7 : fS (s * 128 + h) = nI e) (g8 : yl (112 * s + (h + K s (h + 1) - cz_ s)) = nI n) (g9 : ya (112 * s + (h + K s (h + 1) - cz_ s)) = nI i) (g10 : ye (112 * s + (h + K s (h + 1) - cz_ s)) = nI e - 1) (g11 : ∀ c, ct_in oc a b SC n i c → D e c) (g12 : cf_S F C (oc n) i (fun q => fL ((s * 128 + h) * 4 + q)) (fun q => yk (3 * (112 * s + (h + K s (h + 1) - cz_ s)) + q))) (g13 : K s (h + 1) = K s h + (if oc n = 10 then 1 else 0)) (g14 : cz_ s ≤ K s (h + 1)) (g15 : h + 1 + K s (h + 1) ≤ 16 * K s (h + 1) + lv n + cz_ s) (hn : fX (s * 128 + h) = ct_nx pc kd n (i + 1)) (hT : T s h + 4 * (E n - E (kd n i)) + 3 ≤ T s (h + 1)) (b1 : K s (h + 1) ≤ dep) (b2 : T s (h + 1) + 2 ≤ P s) (b3 : xh s = nI (h + 1)) (b4 : yt s = nI (h + 1 + K s (h + 1) - cz_ s)) (b5 : xc s = nI (K s (h + 1))) (b6 : yc s = nI (K s (h + 1))) (hk : (cr_K φ fu q w F C P pv ou)) (hv : cv_R F C cr gt) (hd : oc n = 14) : ∃ u2 v2 kx, xs_ (kx + 1) ((nI dep), (nI fu), xN, xL, (nI F), (nI V), (nI C), (nI s), (-2), cr, ec, en, ft, (nI q), (nI w), op, a, b, xp, fi, xl, nx, xo, fn, fe, vn, vo, vv, xst, xf, xr, xh, xc, fN, fX, fS, fT, fL, pv) u2 ∧ (∀ post : SY → Prop, post v2 → wpY_deliver post ((nI dep), (nI fu), yN, yi, yo, (nI V), (nI F), (nI C), (nI s), ft, (nI q), 0, 0, (-1), (nI w), 1, 0, gv, gt, op, a, b, pa, fi, nx, yp, wn, wu, gn, ge, wv, yl, ya, ye, yk, yt, yc, yst, yf, yr, ou) gt) ∧ cr_T op a b fi nx pa N oc pc E lv kd SC dep fu xN xL xp xl xo yN yi yo yp φ (kx + 1) u2 v2 := by
  have h7 := (cc_s h1).2
  have h6 := cc_dep h1
  have hKK : K s h ≤ K s (h + 1) := by omega
  have hh := cf_h ht (cc_FR h1) (by omega)
  have hN := ht.2.1
  have hl := (ht.2.2.2.2 n g1).2.2.2.1.2 (by omega)
  have hzl := cz_le s
  have hw : h + K s (h + 1) - cz_ s < 112 := by omega
  have o_ : op n = nI (oc n) := ct_op ht g1 rfl
  have b4' : yt s = nI (h + K s (h + 1) - cz_ s + 1) := by rw [b4]; exact congrArg nI (by omega)
  have hpn := (ht.2.2.2.2 n g1).1.2.2.2
  have yp_ := (hyp n g1).2
  have hEn := ct_E ht g1
  have hkd := (ht.2.2.2.2 n g1).2.2.2.2.2.1
  have h10 : oc n ≠ 10 := by omega
  have hK0 : K s (h + 1) = K s h := by rw [g13, if_neg h10]; rfl
  have b4p : yt s = nI (h + K s h - cz_ s + 1) := by rw [← hK0]; exact b4'
  have g8p : yl (112 * s + (h + K s h - cz_ s)) = nI n := by rw [← hK0]; exact g8
  have b1p : K s h ≤ dep := by omega
  have b5p : xc s = nI (K s h) := by rw [← hK0]; exact b5
  have b6p : yc s = nI (K s h) := by rw [← hK0]; exact b6
  have hwp : h + K s h - cz_ s < 112 := by omega
  have hsh : 1 ≤ s → 1 ≤ h := fun hs1 => by
    have z1 := cz_1 hs1
    rcases Nat.eq_zero_or_pos h with hz | hz
    · subst hz
      have := h1.2.1 s
      omega
    · exact hz
  have hp1 := ct_p1 ht g1 (by omega)
  obtain rfl : i = 0 := by omega
  have o14 : op n = 14 := o_.trans (by rw [hd]; rfl)
  have e0 : vp_updL fL ((s * 128 + h) * 4 + 0) cr ((s * 128 + h) * 4) = cr := pk_uLs
  have h2 := cc_tk (n := n) (i := 0) (x := cr) ht h1 b1p (by omega)
  obtain ⟨φ1, hφ1, hk1⟩ := cr_P (P' := ch_ P s (T s h + 2)) (d := 3) hk h7 rfl (by omega)
  have hw9 := hk.1.2.2.2
  have h3 : (cc_C N oc pc E lv kd a b SC F C V D K T fN fX fS (upd fT (s * 128 + h) (nI (0 + 1))) (vp_updL fL ((s * 128 + h) * 4 + 0) cr) yl ya ye yk (ch_ P s (T s h + 2)) H dep xh xc yt yc fn fe gn ge vn vo vv wn wu wv xst xf xr yst yf yr Q k s h) := cc_fr ht h2 (by omega) (by omega) (fun _ _ _ => rfl) (fun _ _ _ => rfl) ca_r ca_r ca_r ca_r ca_r ca_r ca_r ca_r ca_r ca_c ca_r ca_r ca_r ca_r
  have fin : ∀ pv' ou' : Nat → Int64, (cr_K φ1 fu q (w + 1) F C (ch_ P s (T s h + 2)) pv' ou') → cr_T op a b fi nx pa N oc pc E lv kd SC dep fu xN xL xp xl xo yN yi yo yp φ 2 ((nI dep), (nI fu), xN, xL, (nI F), (nI V), (nI C), (nI s), (-2), cr, ec, en, ft, (nI q), (nI (w + 1)), op, a, b, xp, fi, xl, nx, xo, fn, fe, vn, vo, vv, xst, xf, xr, (upd xh s (nI h)), xc, fN, fX, fS, (upd fT (s * 128 + h) (nI (0 + 1))), (vp_updL fL ((s * 128 + h) * 4 + 0) cr), pv') ((nI dep), (nI fu), yN, yi, yo, (nI V), (nI F), (nI C), (nI s), ft, (nI q), 0, 0, (-1), (nI (w + 1)), 1, 1, gv, gt, op, a, b, pa, fi, nx, yp, wn, wu, gn, ge, wv, yl, ya, ye, yk, (upd yt s (nI (h + K s h - cz_ s))), yc, yst, yf, yr, ou') := by
    intro pv' ou' hk2
    obtain ⟨φ3, z1, z2⟩ := cr_pop (d := 0) (ec := ec) (en := en) (ft := ft) (gv := gv) (xN := xN) (xL := xL) (xp := xp) (xl := xl) (xo := xo) (yN := yN) (yi := yi) (yo := yo) (yp := yp) ht h3 b1p b5p b6p hsh hk2 (by rw [ch_s]; omega) hv
    exact ⟨φ3, by omega, z2⟩
  rcases Nat.lt_or_ge w 24 with hw24 | hw24
  · refine sA_ap ht hyp h1 g1 g2 g3 g4 g5 g6 g7 g8 g9 g10 g11 g12 g13 g14 g15 hn hT b1 b2 b3 b4 b5 b6 hk hv (Or.inr (Or.inl (by omega))) (by omega) (fun post K => x_c14 h7 (by omega) g5 (by omega) o14 (by rw [e0]; exact x_prA hw24 (x_finish h7 b3 K))) (xs_0 _) (fun post K => y_a14a h7 hw (by omega) o14 hw24 (y_finish h7 b4p hwp g8p (by omega) o_ (by omega) h10 K)) (fin _ _ ⟨⟨hk1.1.1, hk1.1.2.1, hk1.1.2.2.1, by omega⟩, fun j hj hjw => ?_⟩)
    by_cases hjj : j = w
    · rw [hjj, pk_uLs, pk_uLs]; exact hv
    · rw [pk_uLn hjj, pk_uLn hjj]; exact hk.2 j hj (by omega)
  · exact sA_ap ht hyp h1 g1 g2 g3 g4 g5 g6 g7 g8 g9 g10 g11 g12 g13 g14 g15 hn hT b1 b2 b3 b4 b5 b6 hk hv (Or.inr (Or.inl (by omega))) (by omega) (fun post K => x_c14 h7 (by omega) g5 (by omega) o14 (by rw [e0]; exact x_prB hw24 (by omega) (x_finish h7 b3 K))) (xs_0 _) (fun post K => y_a14b h7 hw (by omega) o14 hw24 (by omega) (y_finish h7 b4p hwp g8p (by omega) o_ (by omega) h10 K)) (fin _ _ ⟨⟨hk1.1.1, hk1.1.2.1, hk1.1.2.2.1, by omega⟩, fun j hj hjw => hk.2 j hj (by omega)⟩)
end
