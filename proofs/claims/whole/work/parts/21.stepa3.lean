section
variable {op a b fi nx pa : Nat → Int32} {N : Nat} {oc pc E lv : Nat → Nat} {kd : Nat → Nat → Nat} {SC : Nat → Int32 → Prop}
variable {F C V : Nat} {D : Nat → Int32 → Prop} {K T : Nat → Nat → Nat} {fN fX fS fT : Nat → Int32} {fL : Nat → Int64} {yl ya ye : Nat → Int32} {yk : Nat → Int64} {P H : Nat → Nat} {dep : Nat} {xh xc yt yc fn fe gn ge vn vo : Nat → Int32} {vv : Nat → Int64} {wn wu : Nat → Int32} {wv : Nat → Int64} {xst xf xr yst yf yr : Nat → Int32} {Q : Nat → Nat} {k s h : Nat}
variable {fu : Nat} {xN xL : Int32} {xp xl xo : Nat → Int32} {yN yi yo : Int32} {yp : Nat → Int32}
variable {ph ec en ft : Int32} {cr gv gt : Int64} {q w φ : Nat} {pv ou : Nat → Int64} {hs : Int32}
/-- a new variable before the scope of the top frame -/
theorem cc_var {fT' ya' fS' ye' : Nat → Int32} {m : Int32} {e : Nat} {x y : Int64} (ht : (ct_all op a b fi nx pa N oc pc E lv kd SC)) (h1 : (cc_C N oc pc E lv kd a b SC F C V D K T fN fX fS fT fL yl ya ye yk P H dep xh xc yt yc fn fe gn ge vn vo vv wn wu wv xst xf xr yst yf yr Q k s h)) (hK : K s h ≤ 6) (hh : h ≤ 128) (hV : V < 120) (he : e ≤ V) (hv : cv_R F C x y)
    (aS : ca_ (s * 128 + h) (s * 128 + 128) fS fS') (aT : ca_ (s * 128 + h) (s * 128 + 128) fT fT') (ba : ca_ (112 * s + (h + K s h - cz_ s)) (112 * s + 112) ya ya') (be : ca_ (112 * s + (h + K s h - cz_ s)) (112 * s + 112) ye ye') :
    (cc_C N oc pc E lv kd a b SC F C (V + 1) (cd_D D V e m) K T fN fX fS' fT' fL yl ya' ye' yk P H dep xh xc yt yc fn fe gn ge (upd vn (V + 1) m) (upd vo (V + 1) (nI e)) (vp_updL vv (V + 1) x) (upd wn V m) (upd wu V (nI e - 1)) (vp_updL wv V y) xst xf xr yst yf yr Q k s h) := by
  have g := h1
  obtain ⟨⟨q1, q2, q3, q4, q5, q6⟩, gK, gV, gF, _⟩ := g
  exact cc_go ht h1 hK hh (Nat.le_refl _) q1 (Nat.le_succ _) (by omega) cd_D_up (cd_V_new gV he hv) (cd_F_V gF (Nat.le_succ _) cd_D_up) (fun _ _ => rfl) (fun _ _ _ => rfl) (fun _ _ _ => rfl) ca_r ca_r aS aT ca_r ca_r ba be ca_r ca_r ca_r ca_r ca_r ca_r ca_r
theorem sA_loc0 {n i e : Nat} (ht : (ct_all op a b fi nx pa N oc pc E lv kd SC)) (hyp : ∀ n, n < N → xp n = nI (pc n) ∧ yp n = nI (pc n)) (h1 : (cc_C N oc pc E lv kd a b SC F C V D K T fN fX fS fT fL yl ya ye yk P H dep xh xc yt yc fn fe gn ge vn vo vv wn wu wv xst xf xr yst yf yr Q k s h)) (g1 : n < N) (g2 : oc n < 19) (g3 : i < pc n) (g4 : e ≤ V) (g5 : fN (s * 128 + h) = nI n) (g6 : fT (s * 128 + h) = nI (ct_tk (oc n) i)) (g7 : fS (s * 128 + h) = nI e) (g8 : yl (112 * s + (h + K s (h + 1) - cz_ s)) = nI n) (g9 : ya (112 * s + (h + K s (h + 1) - cz_ s)) = nI i) (g10 : ye (112 * s + (h + K s (h + 1) - cz_ s)) = nI e - 1) (g11 : ∀ c, ct_in oc a b SC n i c → D e c) (g12 : cf_S F C (oc n) i (fun q => fL ((s * 128 + h) * 4 + q)) (fun q => yk (3 * (112 * s + (h + K s (h + 1) - cz_ s)) + q))) (g13 : K s (h + 1) = K s h + (if oc n = 10 then 1 else 0)) (g14 : cz_ s ≤ K s (h + 1)) (g15 : h + 1 + K s (h + 1) ≤ 16 * K s (h + 1) + lv n + cz_ s) (hn : fX (s * 128 + h) = ct_nx pc kd n (i + 1)) (hT : T s h + 4 * (E n - E (kd n i)) + 3 ≤ T s (h + 1)) (b1 : K s (h + 1) ≤ dep) (b2 : T s (h + 1) + 2 ≤ P s) (b3 : xh s = nI (h + 1)) (b4 : yt s = nI (h + 1 + K s (h + 1) - cz_ s)) (b5 : xc s = nI (K s (h + 1))) (b6 : yc s = nI (K s (h + 1))) (hk : (cr_K φ fu q w F C P pv ou)) (hv : cv_R F C cr gt) (hd : oc n = 8) (h0 : i = 0) : ∃ u2 v2 kx, xs_ (kx + 1) ((nI dep), (nI fu), xN, xL, (nI F), (nI V), (nI C), (nI s), (-2), cr, ec, en, ft, (nI q), (nI w), op, a, b, xp, fi, xl, nx, xo, fn, fe, vn, vo, vv, xst, xf, xr, xh, xc, fN, fX, fS, fT, fL, pv) u2 ∧ (∀ post : SY → Prop, post v2 → wpY_deliver post ((nI dep), (nI fu), yN, yi, yo, (nI V), (nI F), (nI C), (nI s), ft, (nI q), 0, 0, (-1), (nI w), 1, 0, gv, gt, op, a, b, pa, fi, nx, yp, wn, wu, gn, ge, wv, yl, ya, ye, yk, yt, yc, yst, yf, yr, ou) gt) ∧ cr_T op a b fi nx pa N oc pc E lv kd SC dep fu xN xL xp xl xo yN yi yo yp φ (kx + 1) u2 v2 := by
  have h7 := (cc_s h1).2
  have h6 := cc_dep h1
  have hKK : K s h ≤ K s (h + 1) := by omega
  have hh := cf_h ht (cc_FR h1) (by omega)
  have hN := ht.2.1
  have hl := (ht.2.2.2.2 n g1).2.2.2.1.2 (by omega)
  have hzl := cz_le s
  have hw : h + K s (h + 1) - cz_ s < 112 := by omega
  have o_ : op n = nI (oc n) := ct_op ht g1 rfl
  have b4' : yt s = nI (h + K s (h + 1) - cz_ s + 1) := by rw [b4]; exact congrArg nI (by omega)
  have hpn := (ht.2.2.2.2 n g1).1.2.2.2
  have yp_ := (hyp n g1).2
  have hEn := ct_E ht g1
  have hkd := (ht.2.2.2.2 n g1).2.2.2.2.2.1
  have h10 : oc n ≠ 10 := by omega
  have hK0 : K s (h + 1) = K s h := by rw [g13, if_neg h10]; rfl
  have b4p : yt s = nI (h + K s h - cz_ s + 1) := by rw [← hK0]; exact b4'
  have g8p : yl (112 * s + (h + K s h - cz_ s)) = nI n := by rw [← hK0]; exact g8
  have b1p : K s h ≤ dep := by omega
  have b5p : xc s = nI (K s h) := by rw [← hK0]; exact b5
  have b6p : yc s = nI (K s h) := by rw [← hK0]; exact b6
  have hwp : h + K s h - cz_ s < 112 := by omega
  have hsh : 1 ≤ s → 1 ≤ h := fun hs1 => by
    have z1 := cz_1 hs1
    rcases Nat.eq_zero_or_pos h with hz | hz
    · subst hz
      have := h1.2.1 s
      omega
    · exact hz
  subst h0
  have g6' : fT (s * 128 + h) = nI 0 := by rw [g6, hd]; rfl
  rcases Nat.lt_or_ge V 120 with hV | hV
  · have h2 : (cc_C N oc pc E lv kd a b SC F C (V + 1) (cd_D D V e (a n)) K T fN fX (upd fS (s * 128 + h) (nI (V + 1))) (upd fT (s * 128 + h) (nI (0 + 1))) fL yl (upd ya (112 * s + (h + K s (h + 1) - cz_ s)) (nI (0 + 1))) (upd ye (112 * s + (h + K s (h + 1) - cz_ s)) (nI V)) yk P H dep xh xc yt yc fn fe gn ge (upd vn (V + 1) (a n)) (upd vo (V + 1) (nI e)) (vp_updL vv (V + 1) cr) (upd wn V (a n)) (upd wu V (nI e - 1)) (vp_updL wv V gt) xst xf xr yst yf yr Q k s h) := cc_var ht h1 (by omega) (by omega) hV g4 hv (ca_u ca_r (by omega) (by omega)) (ca_u ca_r (by omega) (by omega)) (ca_u ca_r (by omega) (by omega)) (ca_u ca_r (by omega) (by omega))
    rcases Nat.lt_or_ge (0 + 1) (pc n) with hlt | hlt
    · have k1 := hkd 0 g3
      have k2 := hkd 1 hlt
      have k5 : E (kd n 0) ≤ kd n 1 := (k1.2.2.2.2.1 hlt).2.1
      have k4 := ((ht.2.2.2.2 n g1).2.2.2.2.2.2 trivial).2.2.2 1 hlt
      have k3 := ct_E ht k2.2.1
      obtain ⟨φ', hφ, hk'⟩ := cr_P (P' := ch_ P s (T s h + 4 * (E n - kd n 1) + 3)) (d := 1) hk h7 rfl (by omega)
      refine ⟨_, _, 0, xs_d (fun post K => x_del h7 (by omega) b3 (x_take8 h7 (by omega) b3 g5 (by omega) o_ (by omega) g6' hd (x_loc0 (by omega) g5 (by omega) hV K))), fun post K => y_8a hV h7 b4' hw g8 (by omega) g9 yp_ (by omega) (by omega) o_ (by omega) hd rfl K, ?_⟩
      rw [g7, g10]
      refine cr_rdy (i := 1) (e := V + 1) ht h2 g1 g2 hlt (by omega) g5 ?_ pk_us g8 pk_us ?_ ?_ ?_ g13 g14 g15 (hn.trans (ct_nxl hlt)) b1 b3 b4 b5 b6 hφ hk'
      · rw [pk_us, ct_tkn (by omega)]
      · rw [pk_us, nI_pred]
      · intro c hc
        rw [cd_D_new]
        rcases hc with hc | hc | hc
        · exact Or.inr (g11 c (Or.inl hc))
        · exact Or.inl hc.2.2
        · exact absurd hc.1 h10
      · exact ⟨fun _ h => by omega, fun h => by omega⟩
    · have hx := hn.trans (ct_nxe (kd := kd) (show ¬ 0 + 1 < pc n by omega))
      have hz0 : fL ((s * 128 + h) * 4) = 0 := g12.1 hd rfl
      refine ⟨_, _, 1, xs_t (xs_d (fun post K => x_del h7 (by omega) b3 (x_take8 h7 (by omega) b3 g5 (by omega) o_ (by omega) g6' hd (x_loc0 (by omega) g5 (by omega) hV K)))) (xs_a (fun post K => x_adv1 h7 b3 (by omega) hx (x_c8 h7 (by omega) g5 (by omega) (o_.trans (by rw [hd]; rfl)) (x_finish h7 b3 K)))), fun post K => y_8b hV h7 b4' hw g8 (by omega) g9 yp_ (by omega) (by omega) o_ (by omega) hd rfl (y_finish h7 b4p hwp g8p (by omega) o_ (by omega) h10 K), ?_⟩
      rw [g7, g10, hz0]
      exact cr_pop ht h2 b1p b5p b6p hsh hk (by omega) cv_nil
  · obtain rfl : V = 120 := by have := h1.1.2.2.1; omega
    have hφ2 : P s ≤ φ := by have h3 := sm_le (f := P) 7 h7; have h4 := hk.1.2.2.1; omega
    have h2 : (cc_C N oc pc E lv kd a b SC F C 120 D K T fN fX fS (upd fT (s * 128 + h) (nI (0 + 1))) fL yl ya ye yk P H dep xh xc yt yc fn fe gn ge vn vo vv wn wu wv xst xf xr yst yf yr Q k s h) := cc_fr ht h1 (by omega) (by omega) (fun _ _ _ => rfl) (fun _ _ _ => rfl) ca_r ca_r ca_r (ca_u ca_r (by omega) (by omega)) ca_r ca_r ca_r ca_r ca_r ca_r ca_r ca_r ca_r ca_r
    obtain ⟨u', v', gX, gY, gT⟩ := cr_raise (d := 1) (ph := -1) (hs := 0) (cr := cr) (gt := gt) (gv := gv) (ec := ec) (en := en) (ft := ft) (xN := xN) (xL := xL) (xp := xp) (xl := xl) (xo := xo) (yN := yN) (yi := yi) (yo := yo) (yp := yp) ht h2 b1p hk (by omega) (by omega) 7 (nI n)
    refine ⟨u', v', 0, xs_d (fun post K => x_del h7 (by omega) b3 (x_take8 h7 (by omega) b3 g5 (by omega) o_ (by omega) g6' hd (x_loc0e (by omega) g5 (gX post K)))), fun post K => ?_, gT⟩
    by_cases hz : 0 + 1 = pc n
    · exact y_8e1 h7 b4' hw g8 (by omega) g9 yp_ (by omega) (by omega) o_ hz hd rfl (gY post K)
    · exact y_8e0 h7 b4' hw g8 (by omega) g9 yp_ (by omega) (by omega) o_ hz hd rfl (gY post K)
theorem sA_loc1 {n i e : Nat} (ht : (ct_all op a b fi nx pa N oc pc E lv kd SC)) (hyp : ∀ n, n < N → xp n = nI (pc n) ∧ yp n = nI (pc n)) (h1 : (cc_C N oc pc E lv kd a b SC F C V D K T fN fX fS fT fL yl ya ye yk P H dep xh xc yt yc fn fe gn ge vn vo vv wn wu wv xst xf xr yst yf yr Q k s h)) (g1 : n < N) (g2 : oc n < 19) (g3 : i < pc n) (g4 : e ≤ V) (g5 : fN (s * 128 + h) = nI n) (g6 : fT (s * 128 + h) = nI (ct_tk (oc n) i)) (g7 : fS (s * 128 + h) = nI e) (g8 : yl (112 * s + (h + K s (h + 1) - cz_ s)) = nI n) (g9 : ya (112 * s + (h + K s (h + 1) - cz_ s)) = nI i) (g10 : ye (112 * s + (h + K s (h + 1) - cz_ s)) = nI e - 1) (g11 : ∀ c, ct_in oc a b SC n i c → D e c) (g12 : cf_S F C (oc n) i (fun q => fL ((s * 128 + h) * 4 + q)) (fun q => yk (3 * (112 * s + (h + K s (h + 1) - cz_ s)) + q))) (g13 : K s (h + 1) = K s h + (if oc n = 10 then 1 else 0)) (g14 : cz_ s ≤ K s (h + 1)) (g15 : h + 1 + K s (h + 1) ≤ 16 * K s (h + 1) + lv n + cz_ s) (hn : fX (s * 128 + h) = ct_nx pc kd n (i + 1)) (hT : T s h + 4 * (E n - E (kd n i)) + 3 ≤ T s (h + 1)) (b1 : K s (h + 1) ≤ dep) (b2 : T s (h + 1) + 2 ≤ P s) (b3 : xh s = nI (h + 1)) (b4 : yt s = nI (h + 1 + K s (h + 1) - cz_ s)) (b5 : xc s = nI (K s (h + 1))) (b6 : yc s = nI (K s (h + 1))) (hk : (cr_K φ fu q w F C P pv ou)) (hv : cv_R F C cr gt) (hd : oc n = 8) (h0 : 0 < i) : ∃ u2 v2 kx, xs_ (kx + 1) ((nI dep), (nI fu), xN, xL, (nI F), (nI V), (nI C), (nI s), (-2), cr, ec, en, ft, (nI q), (nI w), op, a, b, xp, fi, xl, nx, xo, fn, fe, vn, vo, vv, xst, xf, xr, xh, xc, fN, fX, fS, fT, fL, pv) u2 ∧ (∀ post : SY → Prop, post v2 → wpY_deliver post ((nI dep), (nI fu), yN, yi, yo, (nI V), (nI F), (nI C), (nI s), ft, (nI q), 0, 0, (-1), (nI w), 1, 0, gv, gt, op, a, b, pa, fi, nx, yp, wn, wu, gn, ge, wv, yl, ya, ye, yk, yt, yc, yst, yf, yr, ou) gt) ∧ cr_T op a b fi nx pa N oc pc E lv kd SC dep fu xN xL xp xl xo yN yi yo yp φ (kx + 1) u2 v2 := by
  have h7 := (cc_s h1).2
  have h6 := cc_dep h1
  have hKK : K s h ≤ K s (h + 1) := by omega
  have hh := cf_h ht (cc_FR h1) (by omega)
  have hN := ht.2.1
  have hl := (ht.2.2.2.2 n g1).2.2.2.1.2 (by omega)
  have hzl := cz_le s
  have hw : h + K s (h + 1) - cz_ s < 112 := by omega
  have o_ : op n = nI (oc n) := ct_op ht g1 rfl
  have b4' : yt s = nI (h + K s (h + 1) - cz_ s + 1) := by rw [b4]; exact congrArg nI (by omega)
  have hpn := (ht.2.2.2.2 n g1).1.2.2.2
  have yp_ := (hyp n g1).2
  have hEn := ct_E ht g1
  have hkd := (ht.2.2.2.2 n g1).2.2.2.2.2.1
  have h10 : oc n ≠ 10 := by omega
  have hK0 : K s (h + 1) = K s h := by rw [g13, if_neg h10]; rfl
  have b4p : yt s = nI (h + K s h - cz_ s + 1) := by rw [← hK0]; exact b4'
  have g8p : yl (112 * s + (h + K s h - cz_ s)) = nI n := by rw [← hK0]; exact g8
  have b1p : K s h ≤ dep := by omega
  have b5p : xc s = nI (K s h) := by rw [← hK0]; exact b5
  have b6p : yc s = nI (K s h) := by rw [← hK0]; exact b6
  have hwp : h + K s h - cz_ s < 112 := by omega
  have hsh : 1 ≤ s → 1 ≤ h := fun hs1 => by
    have z1 := cz_1 hs1
    rcases Nat.eq_zero_or_pos h with hz | hz
    · subst hz
      have := h1.2.1 s
      omega
    · exact hz
  have h5 : ct_tk (oc n) i = i := ct_tkn (by omega)
  rw [h5] at g6
  have h2 : (cc_C N oc pc E lv kd a b SC F C V D K T fN fX fS (upd fT (s * 128 + h) (nI (i + 1))) (vp_updL fL ((s * 128 + h) * 4) cr) yl (upd ya (112 * s + (h + K s (h + 1) - cz_ s)) (nI (i + 1))) ye yk P H dep xh xc yt yc fn fe gn ge vn vo vv wn wu wv xst xf xr yst yf yr Q k s h) := cc_fr ht h1 (by omega) (by omega) (fun _ _ _ => rfl) (fun _ _ _ => rfl) ca_r ca_r ca_r (ca_u ca_r (by omega) (by omega)) (ca_l ca_r (by omega) (by omega)) ca_r (ca_u ca_r (by omega) (by omega)) ca_r ca_r ca_r ca_r ca_r ca_r ca_r
  rcases Nat.lt_or_ge (i + 1) (pc n) with hlt | hlt
  · have k1 := hkd i g3
    have k2 := hkd (i + 1) hlt
    have k5 := (k1.2.2.2.2.1 hlt).2.1
    have k4 := ((ht.2.2.2.2 n g1).2.2.2.2.2.2 trivial).2.2.2 (i + 1) hlt
    have k3 := ct_E ht k2.2.1
    obtain ⟨φ', hφ, hk'⟩ := cr_P (P' := ch_ P s (T s h + 4 * (E n - kd n (i + 1)) + 3)) (d := 1) hk h7 rfl (by omega)
    refine ⟨_, _, 0, xs_d (fun post K => x_del h7 (by omega) b3 (x_take8 h7 (by omega) b3 g5 (by omega) o_ (by omega) g6 hd (x_loc1 (by omega) h0 (by omega) K))), fun post K => y_8c h7 b4' hw g8 (by omega) g9 yp_ (by omega) (by omega) o_ (by omega) hd h0 K, cr_rdy ht h2 g1 g2 hlt g4 g5 ?_ g7 g8 pk_us g10 (fun c hc => g11 c (ct_inL hc h0)) ?_ g13 g14 g15 (hn.trans (ct_nxl hlt)) b1 b3 b4 b5 b6 hφ hk'⟩
    · rw [pk_us, ct_tkn (by omega)]
    · exact ⟨fun _ h => by omega, fun h => by omega⟩
  · have hx := hn.trans (ct_nxe (kd := kd) (show ¬ i + 1 < pc n by omega))
    refine ⟨_, _, 1, xs_t (xs_d (fun post K => x_del h7 (by omega) b3 (x_take8 h7 (by omega) b3 g5 (by omega) o_ (by omega) g6 hd (x_loc1 (by omega) h0 (by omega) K)))) (xs_a (fun post K => x_adv1 h7 b3 (by omega) hx (x_c8 h7 (by omega) g5 (by omega) (o_.trans (by rw [hd]; rfl)) (x_finish h7 b3 K)))), fun post K => y_8d h7 b4' hw g8 (by omega) g9 yp_ (by omega) (by omega) o_ (by omega) hd h0 (y_finish h7 b4p hwp g8p (by omega) o_ (by omega) h10 K), ?_⟩
    rw [pk_uLs]
    exact cr_pop ht h2 b1p b5p b6p hsh hk (by omega) hv
/-- a function's last part has ended -/
theorem sA_fun {n i e : Nat} (ht : (ct_all op a b fi nx pa N oc pc E lv kd SC)) (hyp : ∀ n, n < N → xp n = nI (pc n) ∧ yp n = nI (pc n)) (h1 : (cc_C N oc pc E lv kd a b SC F C V D K T fN fX fS fT fL yl ya ye yk P H dep xh xc yt yc fn fe gn ge vn vo vv wn wu wv xst xf xr yst yf yr Q k s h)) (g1 : n < N) (g2 : oc n < 19) (g3 : i < pc n) (g4 : e ≤ V) (g5 : fN (s * 128 + h) = nI n) (g6 : fT (s * 128 + h) = nI (ct_tk (oc n) i)) (g7 : fS (s * 128 + h) = nI e) (g8 : yl (112 * s + (h + K s (h + 1) - cz_ s)) = nI n) (g9 : ya (112 * s + (h + K s (h + 1) - cz_ s)) = nI i) (g10 : ye (112 * s + (h + K s (h + 1) - cz_ s)) = nI e - 1) (g11 : ∀ c, ct_in oc a b SC n i c → D e c) (g12 : cf_S F C (oc n) i (fun q => fL ((s * 128 + h) * 4 + q)) (fun q => yk (3 * (112 * s + (h + K s (h + 1) - cz_ s)) + q))) (g13 : K s (h + 1) = K s h + (if oc n = 10 then 1 else 0)) (g14 : cz_ s ≤ K s (h + 1)) (g15 : h + 1 + K s (h + 1) ≤ 16 * K s (h + 1) + lv n + cz_ s) (hn : fX (s * 128 + h) = ct_nx pc kd n (i + 1)) (hT : T s h + 4 * (E n - E (kd n i)) + 3 ≤ T s (h + 1)) (b1 : K s (h + 1) ≤ dep) (b2 : T s (h + 1) + 2 ≤ P s) (b3 : xh s = nI (h + 1)) (b4 : yt s = nI (h + 1 + K s (h + 1) - cz_ s)) (b5 : xc s = nI (K s (h + 1))) (b6 : yc s = nI (K s (h + 1))) (hk : (cr_K φ fu q w F C P pv ou)) (hv : cv_R F C cr gt) (hd : oc n = 10) (hlt : i + 1 = pc n) : ∃ u2 v2 kx, xs_ (kx + 1) ((nI dep), (nI fu), xN, xL, (nI F), (nI V), (nI C), (nI s), (-2), cr, ec, en, ft, (nI q), (nI w), op, a, b, xp, fi, xl, nx, xo, fn, fe, vn, vo, vv, xst, xf, xr, xh, xc, fN, fX, fS, fT, fL, pv) u2 ∧ (∀ post : SY → Prop, post v2 → wpY_deliver post ((nI dep), (nI fu), yN, yi, yo, (nI V), (nI F), (nI C), (nI s), ft, (nI q), 0, 0, (-1), (nI w), 1, 0, gv, gt, op, a, b, pa, fi, nx, yp, wn, wu, gn, ge, wv, yl, ya, ye, yk, yt, yc, yst, yf, yr, ou) gt) ∧ cr_T op a b fi nx pa N oc pc E lv kd SC dep fu xN xL xp xl xo yN yi yo yp φ (kx + 1) u2 v2 := by
  have h7 := (cc_s h1).2
  have h6 := cc_dep h1
  have hKK : K s h ≤ K s (h + 1) := by omega
  have hh := cf_h ht (cc_FR h1) (by omega)
  have hN := ht.2.1
  have hl := (ht.2.2.2.2 n g1).2.2.2.1.2 (by omega)
  have hzl := cz_le s
  have hw : h + K s (h + 1) - cz_ s < 112 := by omega
  have o_ : op n = nI (oc n) := ct_op ht g1 rfl
  have b4' : yt s = nI (h + K s (h + 1) - cz_ s + 1) := by rw [b4]; exact congrArg nI (by omega)
  have hpn := (ht.2.2.2.2 n g1).1.2.2.2
  have yp_ := (hyp n g1).2
  have hEn := ct_E ht g1
  have hkd := (ht.2.2.2.2 n g1).2.2.2.2.2.1
  have h5 : ct_tk (oc n) i = i := ct_tkn (by omega)
  rw [h5] at g6
  have hK1 : K s (h + 1) = K s h + 1 := by rw [g13, if_pos hd]
  have b5c : xc s = nI (K s h + 1) := by rw [← hK1]; exact b5
  have b6c : yc s = nI (K s h + 1) := by rw [← hK1]; exact b6
  have hx := hn.trans (ct_nxe (kd := kd) (show ¬ i + 1 < pc n by omega))
  have o10 : op n = 10 := o_.trans (by rw [hd]; rfl)
  have h2 : (cc_C N oc pc E lv kd a b SC F C V D K T fN fX fS (upd fT (s * 128 + h) (nI (i + 1))) (vp_updL fL ((s * 128 + h) * 4) cr) yl (upd ya (112 * s + (h + K s (h + 1) - cz_ s)) (nI (i + 1))) ye yk P H dep xh (upd xc s (nI (K s h))) yt (upd yc s (nI (K s h))) fn fe gn ge vn vo vv wn wu wv xst xf xr yst yf yr Q k s h) := cc_fr ht h1 (by omega) (by omega) (fun _ _ _ => rfl) (fun _ _ _ => rfl) ca_r ca_r ca_r (ca_u ca_r (by omega) (by omega)) (ca_l ca_r (by omega) (by omega)) ca_r (ca_u ca_r (by omega) (by omega)) ca_r ca_r ca_r ca_r (ca_u ca_r (by omega) (by omega)) ca_r (ca_u ca_r (by omega) (by omega))
  by_cases hb : 1 ≤ s ∧ h = 0
  · obtain ⟨hs1, rfl⟩ := hb
    have hK00 := h1.2.1 s
    have hw0 : 0 + K s (0 + 1) - cz_ s = 0 := by rw [cz_1 hs1]; omega
    have h3 : (cc_C N oc pc E lv kd a b SC F C V D K T fN fX fS (upd fT (s * 128 + 0) (nI (i + 1))) (vp_updL fL ((s * 128 + 0) * 4) cr) yl (upd ya (112 * s + (0 + K s (0 + 1) - cz_ s)) (nI (i + 1))) ye yk P H dep (upd xh s (nI 0)) (upd xc s (nI (K s 0))) (upd yt s (nI (0 + K s (0 + 1) - cz_ s))) (upd yc s (nI (K s 0))) fn fe gn ge vn vo vv wn wu wv xst xf xr yst yf yr Q k s 0) := cc_fr ht h2 (by omega) (by omega) (fun _ _ _ => rfl) (fun _ _ _ => rfl) ca_r ca_r ca_r ca_r ca_r ca_r ca_r ca_r ca_r ca_r (ca_u ca_r (by omega) (by omega)) ca_r (ca_u ca_r (by omega) (by omega)) ca_r
    obtain ⟨r, j, e1, e2, e3, e4, e5, e6, e7, e8⟩ := cr_leave (m := 0) (wd := 2) (d := 3) (ft := ft) (ec := ec) (en := en) (gv := gv) (xN := xN) (xL := xL) (xp := xp) (xl := xl) (xo := xo) (yN := yN) (yi := yi) (yo := yo) (yp := yp) ht h3 (by omega) hk hs1 (Or.inr rfl) (by omega) (fun h => by omega) hv
    refine ⟨_, _, 2, xs_t (xs_t (xs_d (fun post K => x_del h7 (by omega) b3 (x_take10 h7 (by omega) b3 g5 (by omega) o_ (by omega) g6 hd K))) (xs_a (fun post K => x_adv1 h7 b3 (by omega) hx (x_c10 h7 (by omega) g5 (by omega) o10 b5c (x_finish h7 b3 K))))) (xs_d (fun post K => x_del0 hs1 h7 e1 pk_us e3 e5 K)), fun post K => y_10l h7 b4' hw g8 (by omega) g9 yp_ (by omega) (by omega) o_ hlt hd (y_finishF h7 b4' hw g8 (by omega) o10 (y_ret0 h7 e1 e4 e2 b6c (by rw [pk_us, hw0]) e6 K)), ?_⟩
    rw [pk_uLs]
    exact e8
  · have hsh : 1 ≤ s → 1 ≤ h := fun hs1 => by
      rcases Nat.eq_zero_or_pos h with hz | hz
      · exact absurd ⟨hs1, hz⟩ hb
      · exact hz
    have hz := cf_z ht (cc_FR h1) (by omega) hsh
    have hw1 : h + K s (h + 1) - cz_ s = h + K s h - cz_ s + 1 := by omega
    refine ⟨_, _, 1, xs_t (xs_d (fun post K => x_del h7 (by omega) b3 (x_take10 h7 (by omega) b3 g5 (by omega) o_ (by omega) g6 hd K))) (xs_a (fun post K => x_adv1 h7 b3 (by omega) hx (x_c10 h7 (by omega) g5 (by omega) o10 b5c (x_finish h7 b3 K)))), fun post K => y_10l h7 b4' hw g8 (by omega) g9 yp_ (by omega) (by omega) o_ hlt hd (y_finishF h7 b4' hw g8 (by omega) o10 (y_ret1 h7 b6c (by rw [pk_us, hw1]) (by omega) K)), ?_⟩
    rw [pk_uLs, up_same]
    exact cr_pop ht h2 (by omega) pk_us pk_us hsh hk (by omega) hv
end
