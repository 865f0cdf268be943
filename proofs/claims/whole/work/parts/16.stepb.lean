section
variable {xd xg xN xL xF xV xC xs ph : Int32} {cr : Int64} {ec en ft bt pr : Int32} {op a b xp fi xl nx xo fn fe vn vo : Nat → Int32} {vv : Nat → Int64} {xst xf xr xh xc fN fX fS fT : Nat → Int32} {fL pv : Nat → Int64}
/-- a part is begun -/
theorem x_adv2 {post : SX → Prop} {s h m e : Nat} (hs : s < 7) (hh : xh s = nI (h + 1)) (hb : h < 128) (hm : m < 96) (hx : fX (s * 128 + h) = nI m) (he : fS (s * 128 + h) = nI e) (K : wpX_begin post (xd, xg, xN, xL, xF, xV, xC, (nI s), ph, cr, ec, en, ft, bt, pr, op, a, b, xp, fi, xl, nx, xo, fn, fe, vn, vo, vv, xst, xf, xr, xh, xc, fN, (upd fX (s * 128 + h) (nx m)), fS, fT, fL, pv) (nI m) (nI e)) : wpX_advance post (xd, xg, xN, xL, xF, xV, xC, (nI s), ph, cr, ec, en, ft, bt, pr, op, a, b, xp, fi, xl, nx, xo, fn, fe, vn, vo, vv, xst, xf, xr, xh, xc, fN, fX, fS, fT, fL, pv) := by
  have ei := nc_ (n := s * 128 + h) (by omega)
  have em := nc_ (n := m) (by omega)
  have wm := vi_ (n := m) (N := 96) hm (by omega)
  have wi := vi_ (n := s * 128 + h) (N := 896) (by omega) (by omega)
  unfold wpX_advance
  dsimp only
  refine x_top hs hh ?_
  refine ⟨wi, nm_r (e' := nI m) (by rw [ei, hx]) (br_f ?_ ⟨wm, wi, nm_r (e' := upd fX (s * 128 + h) (nx m)) (by rw [ei, em]) ⟨wi, ?_⟩⟩)⟩
  · intro h
    have h2 := nI_pos' (n := m) (by omega)
    rw [h] at h2
    exact absurd h2 (by decide)
  · rw [ei, he]; exact K
end
section
variable {yd yg yN yi yo yV yF yC ys yft ybt res yer ypl ypr rn hs : Int32} {gv gt : Int64} {op a b pa fi nx yp wn wu gn ge : Nat → Int32} {wv : Nat → Int64} {yl ya ye : Nat → Int32} {yk : Nat → Int64} {yt yc yst yf yr : Nat → Int32} {ou : Nat → Int64}
theorem y_kid {post : Int32 → SY → Prop} {J : _} {j i : Nat} {kd : Nat → Nat} {en : Int32} (hj : j < 784) (hi : i < 100) (ha : ya j = nI i) (he : ye j = en) (hk : ∀ t, t ≤ i → kd t < 96) (hn : ∀ t, t < i → nx (kd t) = nI (kd (t + 1))) (H : wpY_evaluate (fun u => match u with | (yd, yg, yN, yi, yo, yV, yF, yC, ys, yft, ybt, res, yer, ypl, ypr, rn, hs, gv, gt, op, a, b, pa, fi, nx, yp, wn, wu, gn, ge, wv, yl, ya, ye, yk, yt, yc, yst, yf, yr, ou) => J yd yg yN yi yo yV yF yC ys yft ybt res yer ypl ypr rn hs gv gt op a b pa fi nx yp wn wu gn ge wv yl ya ye yk yt yc yst yf yr ou) (yd, yg, yN, yi, yo, yV, yF, yC, ys, yft, ybt, res, yer, ypl, ypr, rn, hs, gv, gt, op, a, b, pa, fi, nx, yp, wn, wu, gn, ge, wv, yl, ya, ye, yk, yt, yc, yst, yf, yr, ou) (nI (kd i)) en) : ∀ d t, t + d = i → ∀ f, wY_run_181 post J (nI j) yd yg yN yi yo yV yF yC ys yft ybt res yer ypl ypr rn hs gv gt op a b pa fi nx yp wn wu gn ge wv yl ya ye yk yt yc yst yf yr ou (f + d + 1) (nI (kd t)) (nI t) := by
  have ej := nc_ (n := j) (by omega)
  have wj := vi_ (n := j) (N := 784) hj (by omega)
  intro d
  induction d with
  | zero =>
    intro t ht f
    obtain rfl : t = i := by omega
    refine ⟨wj, br_t ?_ ⟨wj, ?_⟩⟩
    · rw [ej, ha]; exact nI_le (Nat.le_refl _) (by omega)
    · rw [ej, he]; exact H
  | succ d ih =>
    intro t ht f
    have et := nc_ (n := kd t) (by have := hk t (by omega); omega)
    have wt := vi_ (n := kd t) (N := 96) (hk t (by omega)) (by omega)
    refine ⟨wj, br_f ?_ ⟨wt, nm_r (e' := nI (kd (t + 1))) (by rw [et]; exact hn t (by omega)) (nm_r (nI_1 t) ?_)⟩⟩
    · rw [ej, ha]; exact nI_ge (by omega) (by omega)
    · exact ih (t + 1) (by omega) f
theorem ys_e {v' : SY} {s w n i : Nat} {kd : Nat → Nat} {en : Int32} (h7 : s < 7) (ht : yt s = nI (w + 1)) (hw : w < 112) (hl : yl (112 * s + w) = nI n) (hn96 : n < 96) (hf : fi n = nI (kd 0)) (hi : i < 100) (ha : ya (112 * s + w) = nI i) (he : ye (112 * s + w) = en) (hk : ∀ t, t ≤ i → kd t < 96) (hn : ∀ t, t < i → nx (kd t) = nI (kd (t + 1)))
    (H : ∀ post : SY → Prop, post v' → wpY_evaluate post (yd, yg, yN, yi, yo, yV, yF, yC, (nI s), yft, ybt, res, yer, ypl, ypr, 1, 0, gv, gt, op, a, b, pa, fi, nx, yp, wn, wu, gn, ge, wv, yl, ya, ye, yk, yt, yc, yst, yf, yr, ou) (nI (kd i)) en) : ys_ (yd, yg, yN, yi, yo, yV, yF, yC, (nI s), yft, ybt, res, yer, ypl, ypr, 1, 0, gv, gt, op, a, b, pa, fi, nx, yp, wn, wu, gn, ge, wv, yl, ya, ye, yk, yt, yc, yst, yf, yr, ou) v' := by
  intro post f h
  have e := nc_ (n := s) (by omega)
  have ei := nc_ (n := 112 * s + w) (by omega)
  have e2 := nc_ (n := n) (by omega)
  have v := vi_ (n := s) (N := 7) h7 (by omega)
  have vn := vi_ (n := n) (N := 96) hn96 (by omega)
  have v1 := vi_ (n := 112 * s + w) (N := 784) (by omega) (by omega)
  refine br_f (by decide) (br_t rfl ⟨v, nm_r (e' := nI (112 * s + w)) (by rw [e, ht, ix_y]) ⟨v1, ?_, nm_r (e' := nI (kd 0)) (by rw [ei, hl, e2]; exact hf) ⟨0 + i + 1, ?_⟩⟩⟩)
  · rw [ei, hl]; exact vn
  · refine y_kid (by omega) hi ha he hk hn (H _ ?_) i 0 (by omega) 0
    obtain ⟨_, _, _, _, _, _, _, _, _, _, _, _, _, _, _, _, _, _, _, _, _, _, _, _, _, _, _, _, _, _, _, _, _, _, _, _, _, _, _, _, _⟩ := v'
    exact h
end
section
variable {op a b fi nx pa : Nat → Int32} {N : Nat} {oc pc E lv : Nat → Nat} {kd : Nat → Nat → Nat} {SC : Nat → Int32 → Prop}
variable {F C V : Nat} {D : Nat → Int32 → Prop} {K T : Nat → Nat → Nat} {fN fX fS fT : Nat → Int32} {fL : Nat → Int64} {yl ya ye : Nat → Int32} {yk : Nat → Int64} {P H : Nat → Nat} {dep : Nat} {xh xc yt yc fn fe gn ge vn vo : Nat → Int32} {vv : Nat → Int64} {wn wu : Nat → Int32} {wv : Nat → Int64} {xst xf xr yst yf yr : Nat → Int32} {Q : Nat → Nat} {k s h : Nat}
variable {fu : Nat} {xN xL : Int32} {xp xl xo : Nat → Int32} {yN yi yo : Int32} {yp : Nat → Int32}
variable {ph ec en ft : Int32} {cr gv gt : Int64} {q w φ : Nat} {pv ou : Nat → Int64} {hs : Int32}
theorem ct_nx' {n i : Nat} (ht : (ct_all op a b fi nx pa N oc pc E lv kd SC)) (hn : n < N) (hi : i < pc n) : nx (kd n i) = ct_nx pc kd n (i + 1) := by
  have g := (ht.2.2.2.2 n hn).2.2.2.2.2.1 i hi
  unfold ct_nx
  by_cases h : i + 1 < pc n
  · rw [if_pos h]; exact (g.2.2.2.2.1 h).1
  · rw [if_neg h]; exact g.2.2.2.2.2.1 (by omega)
theorem step_B {u : SX} {v : SY} (ht : (ct_all op a b fi nx pa N oc pc E lv kd SC)) (hyp : ∀ n, n < N → xp n = nI (pc n) ∧ yp n = nI (pc n)) (hB : cr_B op a b fi nx pa N oc pc E lv kd SC dep fu xN xL xp xl xo yN yi yo yp φ u v) : ∃ u2 v2 kx, xs_ (kx + 1) u u2 ∧ ys_ v v2 ∧ cr_T op a b fi nx pa N oc pc E lv kd SC dep fu xN xL xp xl xo yN yi yo yp φ (kx + 1) u2 v2 := by
  obtain ⟨F, C, V, D, K, T, P, H, Q, k, s, h, q, w, ec, en, ft, cr, gv, gt, fn, fe, vn, vo, vv, xst, xf, xr, xh, xc, fN, fX, fS, fT, fL, pv, wn, wu, gn, ge, wv, yl, ya, ye, yk, yt, yc, yst, yf, yr, ou, rfl, rfl, h1, h2, ⟨⟨b1, b2⟩, b3, b4, b5, b6⟩, hk⟩ := hB
  obtain ⟨n, i, e, ⟨⟨g1, g2, g3, g4⟩, ⟨g5, g6, g7⟩, ⟨g8, g9, g10⟩, g11, g12, ⟨g13, g14, g15⟩⟩, hn, hT⟩ := h2
  have h7 := (cc_s h1).2
  have h6 := cc_dep h1
  have hKK : K s h ≤ K s (h + 1) := by omega
  have hh := cf_h ht (cc_FR h1) (by omega)
  have hN := ht.2.1
  have hl := (ht.2.2.2.2 n g1).2.2.2.1.2 (by omega)
  have kd1 := (ht.2.2.2.2 n g1).2.2.2.2.2.1 i g3
  have hEm := ct_E ht kd1.2.1
  have hEn := ((ht.2.2.2.2 n g1).2.2.2.2.2.2 trivial).2.2.2 i g3
  have hzl := cz_le s
  have hpn := (ht.2.2.2.2 n g1).1.2.2.2
  have hw : h + K s (h + 1) - cz_ s < 112 := by omega
  have kdl : ∀ t, t < pc n → kd n t < 96 := fun t ht' => by have := ((ht.2.2.2.2 n g1).2.2.2.2.2.1 t ht').2.1; omega
  have h3 : (cc_C N oc pc E lv kd a b SC F C V D K (kt_ T s (h + 1) (T s h + 4 * (E n - E (kd n i)) + 3)) fN (upd fX (s * 128 + h) (nx (kd n i))) fS fT fL yl ya ye yk P H dep xh xc yt yc fn fe gn ge vn vo vv wn wu wv xst xf xr yst yf yr Q k s (h + 1)) := by
    refine cc_up (cc_fr ht h1 (by omega) (by omega) (fun _ _ _ => rfl) (fun r j hr => kt_n (by omega)) ca_r (ca_u ca_r (by omega) (by omega)) ca_r ca_r ca_r ca_r ca_r ca_r ca_r ca_r ca_r ca_r ca_r ca_r) ?_
    refine ⟨n, i, e, ⟨⟨g1, g2, g3, g4⟩, ⟨g5, g6, g7⟩, ⟨g8, g9, g10⟩, g11, g12, ⟨g13, g14, g15⟩⟩, ?_, ?_⟩
    · rw [pk_us]; exact ct_nx' ht g1 g3
    · rw [kt_s, kt_n (by omega)]; exact Nat.le_refl _
  obtain ⟨u1, u2, v2, j, e1, e2, e3, e4⟩ := ev_all (m := kd n i) (e := e) (xN := xN) (xL := xL) (xp := xp) (xl := xl) (xo := xo) (yN := yN) (yi := yi) (yo := yo) (yp := yp) (ec := ec) (en := en) (ft := ft) (cr := cr) (gv := gv) (gt := gt) ht hyp h3 b1 b3 b4 b5 b6 (fun _ => by omega) hk kd1.2.1 g4 (fun c hc => g11 c (kd1.2.2.2.2.2.2 c hc)) (by rw [kd1.2.2.2.1]; omega) (by rw [kt_s]; omega)
  refine ⟨u2, v2, j, ?_, ?_, e4⟩
  · rw [Nat.add_comm j 1]
    exact xs_t (xs_a (fun post K => x_adv2 h7 b3 (by omega) (kdl i g3) hn g7 (e1 post K))) e2
  · refine ys_e (w := h + K s (h + 1) - cz_ s) (n := n) (i := i) (kd := kd n) h7 ?_ hw g8 (by omega) ?_ (by omega) g9 g10 (fun t ht' => kdl t (by omega)) (fun t ht' => ?_) e3
    · rw [b4]; exact congrArg nI (by omega)
    · exact (ht.2.2.2.2 n g1).2.2.2.2.1.2 (by omega)
    · exact (((ht.2.2.2.2 n g1).2.2.2.2.2.1 t (by omega)).2.2.2.2.1 (by omega)).1
end
