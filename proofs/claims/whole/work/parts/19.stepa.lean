section
variable {xd xg xN xL xF xV xC xs ph : Int32} {cr : Int64} {ec en ft bt pr : Int32} {op a b xp fi xl nx xo fn fe vn vo : Nat → Int32} {vv : Nat → Int64} {xst xf xr xh xc fN fX fS fT : Nat → Int32} {fL pv : Nat → Int64}
variable {post : SX → Prop}
theorem x_if0t {i : Int32} (hf : ∀ q : Int32 → Prop, q 0 → wpX_isFalse q cr) (K : post (xd, xg, xN, xL, xF, xV, xC, xs, ph, cr, ec, en, ft, bt, pr, op, a, b, xp, fi, xl, nx, xo, fn, fe, vn, vo, vv, xst, xf, xr, xh, xc, fN, fX, fS, fT, fL, pv)) : wpX_takeInIf post (xd, xg, xN, xL, xF, xV, xC, xs, ph, cr, ec, en, ft, bt, pr, op, a, b, xp, fi, xl, nx, xo, fn, fe, vn, vo, vv, xst, xf, xr, xh, xc, fN, fX, fS, fT, fL, pv) i (nI 0) := br_t (by decide) (hf _ (br_t rfl K))
theorem x_if0f {i m : Nat} (hi : i < 896) (hm : m < 96) (hx : fX i = nI m) (hf : ∀ q : Int32 → Prop, q 1 → wpX_isFalse q cr) (K : post (xd, xg, xN, xL, xF, xV, xC, xs, ph, cr, ec, en, ft, bt, pr, op, a, b, xp, fi, xl, nx, xo, fn, fe, vn, vo, vv, xst, xf, xr, xh, xc, fN, (upd fX i (nx m)), fS, fT, fL, pv)) : wpX_takeInIf post (xd, xg, xN, xL, xF, xV, xC, xs, ph, cr, ec, en, ft, bt, pr, op, a, b, xp, fi, xl, nx, xo, fn, fe, vn, vo, vv, xst, xf, xr, xh, xc, fN, fX, fS, fT, fL, pv) (nI i) (nI 0) := by
  have ei := nc_ (n := i) (by omega)
  have em := nc_ (n := m) (by omega)
  have wi := vi_ (n := i) (N := 896) hi (by omega)
  refine br_t (by decide) (hf _ (br_f (by decide) ⟨wi, ?_, wi, nm_r (e' := upd fX i (nx m)) (by rw [ei, hx, em]) K⟩))
  rw [ei, hx]; exact vi_ hm (by omega)
theorem x_if1 {i t : Nat} (hi : i < 896) (h0 : 0 < t) (h9 : t < 1000) (K : post (xd, xg, xN, xL, xF, xV, xC, xs, ph, cr, ec, en, ft, bt, pr, op, a, b, xp, fi, xl, nx, xo, fn, fe, vn, vo, vv, xst, xf, xr, xh, xc, fN, (upd fX i (-1)), fS, fT, (vp_updL fL (i * 4) cr), pv)) : wpX_takeInIf post (xd, xg, xN, xL, xF, xV, xC, xs, ph, cr, ec, en, ft, bt, pr, op, a, b, xp, fi, xl, nx, xo, fn, fe, vn, vo, vv, xst, xf, xr, xh, xc, fN, fX, fS, fT, fL, pv) (nI i) (nI t) := by
  have ei := nc_ (n := i) (by omega)
  have e4 := nc_ (n := i * 4) (by omega)
  have wi := vi_ (n := i) (N := 896) hi (by omega)
  have w4 : vp_in (nI i * 4) 3584 := by rw [ix_4]; exact vi_ (by omega) (by omega)
  exact br_f (nI_nle h0 (by omega)) ⟨w4, nm_r (e' := vp_updL fL (i * 4) cr) (by rw [ix_4, e4]) ⟨wi, nm_r (e' := upd fX i (-1)) (by rw [ei]) K⟩⟩
theorem x_loc1 {i t : Nat} (hi : i < 896) (h0 : 0 < t) (h9 : t < 1000) (K : post (xd, xg, xN, xL, xF, xV, xC, xs, ph, cr, ec, en, ft, bt, pr, op, a, b, xp, fi, xl, nx, xo, fn, fe, vn, vo, vv, xst, xf, xr, xh, xc, fN, fX, fS, fT, (vp_updL fL (i * 4) cr), pv)) : wpX_takeInLocal post (xd, xg, xN, xL, xF, xV, xC, xs, ph, cr, ec, en, ft, bt, pr, op, a, b, xp, fi, xl, nx, xo, fn, fe, vn, vo, vv, xst, xf, xr, xh, xc, fN, fX, fS, fT, fL, pv) (nI i) (nI t) := by
  have e4 := nc_ (n := i * 4) (by omega)
  have wi := vi_ (n := i) (N := 896) hi (by omega)
  have w4 : vp_in (nI i * 4) 3584 := by rw [ix_4]; exact vi_ (by omega) (by omega)
  exact ⟨wi, nm_e (br_f (nI_nle h0 (by omega)) ⟨w4, nm_r (e' := vp_updL fL (i * 4) cr) (by rw [ix_4, e4]) K⟩)⟩
theorem x_loc0e {i m : Nat} (hi : i < 896) (hn : fN i = nI m) (K : wpX_raise post (xd, xg, xN, xL, xF, (nI 120), xC, xs, ph, cr, ec, en, ft, bt, pr, op, a, b, xp, fi, xl, nx, xo, fn, fe, vn, vo, vv, xst, xf, xr, xh, xc, fN, fX, fS, fT, fL, pv) 7 (nI m)) : wpX_takeInLocal post (xd, xg, xN, xL, xF, (nI 120), xC, xs, ph, cr, ec, en, ft, bt, pr, op, a, b, xp, fi, xl, nx, xo, fn, fe, vn, vo, vv, xst, xf, xr, xh, xc, fN, fX, fS, fT, fL, pv) (nI i) (nI 0) := by
  have ei := nc_ (n := i) (by omega)
  have wi := vi_ (n := i) (N := 896) hi (by omega)
  exact ⟨wi, nm_r (e' := nI m) (by rw [ei, hn]) (br_t (by decide) (br_f (by decide) K))⟩
theorem x_loc0 {i m V : Nat} (hi : i < 896) (hn : fN i = nI m) (hm : m < 96) (hV : V < 120) (K : post (xd, xg, xN, xL, xF, (nI (V + 1)), xC, xs, ph, cr, ec, en, ft, bt, pr, op, a, b, xp, fi, xl, nx, xo, fn, fe, (upd vn (V + 1) (a m)), (upd vo (V + 1) (fS i)), (vp_updL vv (V + 1) cr), xst, xf, xr, xh, xc, fN, fX, (upd fS i (nI (V + 1))), fT, fL, pv)) : wpX_takeInLocal post (xd, xg, xN, xL, xF, (nI V), xC, xs, ph, cr, ec, en, ft, bt, pr, op, a, b, xp, fi, xl, nx, xo, fn, fe, vn, vo, vv, xst, xf, xr, xh, xc, fN, fX, fS, fT, fL, pv) (nI i) (nI 0) := by
  have ei := nc_ (n := i) (by omega)
  have em := nc_ (n := m) (by omega)
  have wi := vi_ (n := i) (N := 896) hi (by omega)
  have wm := vi_ (n := m) (N := 96) hm (by omega)
  refine ⟨wi, nm_r (e' := nI m) (by rw [ei, hn]) (br_t (by decide) (br_t (nI_lt (b := 120) hV (by omega)) ⟨wm, wi, ?_⟩))⟩
  refine x_var hV ?_
  dsimp only
  refine ⟨wi, nm_r (e' := upd fS i (nI (V + 1))) (by rw [ei]) ?_⟩
  rw [ei, em]
  exact K
end
section
variable {op a b fi nx pa : Nat → Int32} {N : Nat} {oc pc E lv : Nat → Nat} {kd : Nat → Nat → Nat} {SC : Nat → Int32 → Prop}
variable {F C V : Nat} {D : Nat → Int32 → Prop} {K T : Nat → Nat → Nat} {fN fX fS fT : Nat → Int32} {fL : Nat → Int64} {yl ya ye : Nat → Int32} {yk : Nat → Int64} {P H : Nat → Nat} {dep : Nat} {xh xc yt yc fn fe gn ge vn vo : Nat → Int32} {vv : Nat → Int64} {wn wu : Nat → Int32} {wv : Nat → Int64} {xst xf xr yst yf yr : Nat → Int32} {Q : Nat → Nat} {k s h : Nat}
variable {fu : Nat} {xN xL : Int32} {xp xl xo : Nat → Int32} {yN yi yo : Int32} {yp : Nat → Int32}
variable {ph ec en ft : Int32} {cr gv gt : Int64} {q w φ : Nat} {pv ou : Nat → Int64} {hs : Int32}
theorem cr_rdy {n i e d φ' q' : Nat} (ht : (ct_all op a b fi nx pa N oc pc E lv kd SC)) (h1 : (cc_C N oc pc E lv kd a b SC F C V D K T fN fX fS fT fL yl ya ye yk P H dep xh xc yt yc fn fe gn ge vn vo vv wn wu wv xst xf xr yst yf yr Q k s h)) (g1 : n < N) (g2 : oc n < 19) (g3 : i < pc n) (g4 : e ≤ V) (g5 : fN (s * 128 + h) = nI n) (g6 : fT (s * 128 + h) = nI (ct_tk (oc n) i)) (g7 : fS (s * 128 + h) = nI e) (g8 : yl (112 * s + (h + K s (h + 1) - cz_ s)) = nI n) (g9 : ya (112 * s + (h + K s (h + 1) - cz_ s)) = nI i) (g10 : ye (112 * s + (h + K s (h + 1) - cz_ s)) = nI e - 1) (g11 : ∀ c, ct_in oc a b SC n i c → D e c) (g12 : cf_S F C (oc n) i (fun q => fL ((s * 128 + h) * 4 + q)) (fun q => yk (3 * (112 * s + (h + K s (h + 1) - cz_ s)) + q))) (g13 : K s (h + 1) = K s h + (if oc n = 10 then 1 else 0)) (g14 : cz_ s ≤ K s (h + 1)) (g15 : h + 1 + K s (h + 1) ≤ 16 * K s (h + 1) + lv n + cz_ s) (hn : fX (s * 128 + h) = nI (kd n i)) (b1 : K s (h + 1) ≤ dep) (b3 : xh s = nI (h + 1)) (b4 : yt s = nI (h + 1 + K s (h + 1) - cz_ s)) (b5 : xc s = nI (K s (h + 1))) (b6 : yc s = nI (K s (h + 1))) (hφ : φ' + d ≤ φ) (hk' : (cr_K φ' fu q' w F C (ch_ P s (T s h + 4 * (E n - kd n i) + 3)) pv ou)) : cr_T op a b fi nx pa N oc pc E lv kd SC dep fu xN xL xp xl xo yN yi yo yp φ d ((nI dep), (nI fu), xN, xL, (nI F), (nI V), (nI C), (nI s), (-1), cr, ec, en, ft, (nI q'), (nI w), op, a, b, xp, fi, xl, nx, xo, fn, fe, vn, vo, vv, xst, xf, xr, xh, xc, fN, fX, fS, fT, fL, pv) ((nI dep), (nI fu), yN, yi, yo, (nI V), (nI F), (nI C), (nI s), ft, (nI q'), 0, 0, (-1), (nI w), 1, 0, gv, gt, op, a, b, pa, fi, nx, yp, wn, wu, gn, ge, wv, yl, ya, ye, yk, yt, yc, yst, yf, yr, ou) := by
  have h6 := cc_dep h1
  have hKK : K s h ≤ K s (h + 1) := by omega
  have hh := cf_h ht (cc_FR h1) (by omega)
  refine cr_mkB (T := kt_ T s (h + 1) (T s h + 4 * (E n - kd n i) + 3)) (P := ch_ P s (T s h + 4 * (E n - kd n i) + 3)) hφ (cc_fr ht h1 (by omega) (by omega) (fun _ _ _ => rfl) (fun r j hr => kt_n (by omega)) ca_r ca_r ca_r ca_r ca_r ca_r ca_r ca_r ca_r ca_c ca_r ca_r ca_r ca_r) ?_ ⟨⟨b1, ?_⟩, b3, b4, b5, b6⟩ hk'
  · refine ⟨n, i, e, ⟨⟨g1, g2, g3, g4⟩, ⟨g5, g6, g7⟩, ⟨g8, g9, g10⟩, g11, g12, ⟨g13, g14, g15⟩⟩, hn, ?_⟩
    rw [kt_s, kt_n (by omega)]; exact Nat.le_refl _
  · rw [kt_s, ch_s]; exact Nat.le_refl _
theorem ct_tkn {o i : Nat} (h : o ≠ 5) : ct_tk o i = i := if_neg h
theorem ct_mxD {o : Nat} (hd : o < 5 ∨ 10 < o ∨ o = 9) : ct_mx o ≤ 4 := by
  unfold ct_mx
  split
  · omega
  · split
    · omega
    · split
      · omega
      · split
        · omega
        · split <;> omega
theorem ct_inS {n i j : Nat} {c : Int32} (h : ct_in oc a b SC n i c) (ho : oc n ≠ 8) : ct_in oc a b SC n j c := by
  rcases h with h | h | h
  · exact Or.inl h
  · exact absurd h.1 ho
  · exact Or.inr (Or.inr h)
theorem ct_inL {n i j : Nat} {c : Int32} (h : ct_in oc a b SC n i c) (hj : 0 < j) : ct_in oc a b SC n j c := by
  rcases h with h | h | h
  · exact Or.inl h
  · exact Or.inr (Or.inl ⟨h.1, hj, h.2.2⟩)
  · exact Or.inr (Or.inr h)
theorem ct_nxl {n q : Nat} (h : q < pc n) : ct_nx pc kd n q = nI (kd n q) := if_pos h
theorem ct_nxe {n q : Nat} (h : ¬ q < pc n) : ct_nx pc kd n q = -1 := if_neg h
/-- a value is kept, the next part follows -/
theorem sA_Dn {n i e : Nat} (ht : (ct_all op a b fi nx pa N oc pc E lv kd SC)) (hyp : ∀ n, n < N → xp n = nI (pc n) ∧ yp n = nI (pc n)) (h1 : (cc_C N oc pc E lv kd a b SC F C V D K T fN fX fS fT fL yl ya ye yk P H dep xh xc yt yc fn fe gn ge vn vo vv wn wu wv xst xf xr yst yf yr Q k s h)) (g1 : n < N) (g2 : oc n < 19) (g3 : i < pc n) (g4 : e ≤ V) (g5 : fN (s * 128 + h) = nI n) (g6 : fT (s * 128 + h) = nI (ct_tk (oc n) i)) (g7 : fS (s * 128 + h) = nI e) (g8 : yl (112 * s + (h + K s (h + 1) - cz_ s)) = nI n) (g9 : ya (112 * s + (h + K s (h + 1) - cz_ s)) = nI i) (g10 : ye (112 * s + (h + K s (h + 1) - cz_ s)) = nI e - 1) (g11 : ∀ c, ct_in oc a b SC n i c → D e c) (g12 : cf_S F C (oc n) i (fun q => fL ((s * 128 + h) * 4 + q)) (fun q => yk (3 * (112 * s + (h + K s (h + 1) - cz_ s)) + q))) (g13 : K s (h + 1) = K s h + (if oc n = 10 then 1 else 0)) (g14 : cz_ s ≤ K s (h + 1)) (g15 : h + 1 + K s (h + 1) ≤ 16 * K s (h + 1) + lv n + cz_ s) (hn : fX (s * 128 + h) = ct_nx pc kd n (i + 1)) (hT : T s h + 4 * (E n - E (kd n i)) + 3 ≤ T s (h + 1)) (b1 : K s (h + 1) ≤ dep) (b2 : T s (h + 1) + 2 ≤ P s) (b3 : xh s = nI (h + 1)) (b4 : yt s = nI (h + 1 + K s (h + 1) - cz_ s)) (b5 : xc s = nI (K s (h + 1))) (b6 : yc s = nI (K s (h + 1))) (hk : (cr_K φ fu q w F C P pv ou)) (hv : cv_R F C cr gt) (hd : oc n < 5 ∨ 10 < oc n ∨ oc n = 9) (hlt : i + 1 < pc n) : ∃ u2 v2 kx, xs_ (kx + 1) ((nI dep), (nI fu), xN, xL, (nI F), (nI V), (nI C), (nI s), (-2), cr, ec, en, ft, (nI q), (nI w), op, a, b, xp, fi, xl, nx, xo, fn, fe, vn, vo, vv, xst, xf, xr, xh, xc, fN, fX, fS, fT, fL, pv) u2 ∧ (∀ post : SY → Prop, post v2 → wpY_deliver post ((nI dep), (nI fu), yN, yi, yo, (nI V), (nI F), (nI C), (nI s), ft, (nI q), 0, 0, (-1), (nI w), 1, 0, gv, gt, op, a, b, pa, fi, nx, yp, wn, wu, gn, ge, wv, yl, ya, ye, yk, yt, yc, yst, yf, yr, ou) gt) ∧ cr_T op a b fi nx pa N oc pc E lv kd SC dep fu xN xL xp xl xo yN yi yo yp φ (kx + 1) u2 v2 := by
  have h7 := (cc_s h1).2
  have h6 := cc_dep h1
  have hKK : K s h ≤ K s (h + 1) := by omega
  have hh := cf_h ht (cc_FR h1) (by omega)
  have hN := ht.2.1
  have hl := (ht.2.2.2.2 n g1).2.2.2.1.2 (by omega)
  have hzl := cz_le s
  have hw : h + K s (h + 1) - cz_ s < 112 := by omega
  have o_ : op n = nI (oc n) := ct_op ht g1 rfl
  have b4' : yt s = nI (h + K s (h + 1) - cz_ s + 1) := by rw [b4]; exact congrArg nI (by omega)
  have hpn := (ht.2.2.2.2 n g1).1.2.2.2
  have yp_ := (hyp n g1).2
  have hEn := ct_E ht g1
  have hkd := (ht.2.2.2.2 n g1).2.2.2.2.2.1
  have h5 : ct_tk (oc n) i = i := ct_tkn (by omega)
  have hmx := Nat.le_trans (ct_mn' ht g1).2 (ct_mxD hd)
  have k1 := hkd i g3
  have k2 := hkd (i + 1) hlt
  have k3 := ct_E ht k2.2.1
  have k4 := ((ht.2.2.2.2 n g1).2.2.2.2.2.2 trivial).2.2.2 (i + 1) hlt
  have k5 := (k1.2.2.2.2.1 hlt).2.1
  rw [h5] at g6
  obtain ⟨φ', hφ, hk'⟩ := cr_P (P' := ch_ P s (T s h + 4 * (E n - kd n (i + 1)) + 3)) (d := 1) hk h7 rfl (by omega)
  have h2 : (cc_C N oc pc E lv kd a b SC F C V D K T fN fX fS (upd fT (s * 128 + h) (nI (i + 1))) (vp_updL fL ((s * 128 + h) * 4 + i) cr) yl (upd ya (112 * s + (h + K s (h + 1) - cz_ s)) (nI (i + 1))) ye (vp_updL yk (3 * (112 * s + (h + K s (h + 1) - cz_ s)) + i) gt) P H dep xh xc yt yc fn fe gn ge vn vo vv wn wu wv xst xf xr yst yf yr Q k s h) := cc_fr ht h1 (by omega) (by omega) (fun _ _ _ => rfl) (fun _ _ _ => rfl) ca_r ca_r ca_r (ca_u ca_r (by omega) (by omega)) (ca_l ca_r (by omega) (by omega)) ca_r (ca_u ca_r (by omega) (by omega)) ca_r (ca_l ca_r (by omega) (by omega)) ca_r ca_r ca_r ca_r ca_r
  refine ⟨_, _, 0, xs_d (fun post K => x_del h7 (by omega) b3 (x_takeD h7 (by omega) b3 g5 (by omega) o_ (by omega) g6 hd (by omega) K)), fun post K => y_Dn h7 b4' hw g8 (by omega) g9 yp_ (by omega) (by omega) o_ (by omega) hd (by omega) (Or.inl (by omega)) K, cr_rdy ht h2 g1 g2 hlt g4 g5 ?_ g7 g8 pk_us g10 (fun c hc => g11 c (ct_inS hc (by omega))) ?_ g13 g14 g15 (hn.trans (ct_nxl hlt)) b1 b3 b4 b5 b6 hφ hk'⟩
  · rw [pk_us, ct_tkn (by omega)]
  · refine ⟨fun h => by omega, fun h9 q hq hq3 => ?_⟩
    by_cases e1 : q = i
    · subst e1
      dsimp only
      rw [pk_uLs, pk_uLs]; exact hv
    · dsimp only
      rw [pk_uLn (by omega), pk_uLn (by omega)]
      exact g12.2 h9 q (by omega) hq3
/-- the then-part or the else-part follows -/
theorem sA_if0 {n i e : Nat} (ht : (ct_all op a b fi nx pa N oc pc E lv kd SC)) (hyp : ∀ n, n < N → xp n = nI (pc n) ∧ yp n = nI (pc n)) (h1 : (cc_C N oc pc E lv kd a b SC F C V D K T fN fX fS fT fL yl ya ye yk P H dep xh xc yt yc fn fe gn ge vn vo vv wn wu wv xst xf xr yst yf yr Q k s h)) (g1 : n < N) (g2 : oc n < 19) (g3 : i < pc n) (g4 : e ≤ V) (g5 : fN (s * 128 + h) = nI n) (g6 : fT (s * 128 + h) = nI (ct_tk (oc n) i)) (g7 : fS (s * 128 + h) = nI e) (g8 : yl (112 * s + (h + K s (h + 1) - cz_ s)) = nI n) (g9 : ya (112 * s + (h + K s (h + 1) - cz_ s)) = nI i) (g10 : ye (112 * s + (h + K s (h + 1) - cz_ s)) = nI e - 1) (g11 : ∀ c, ct_in oc a b SC n i c → D e c) (g12 : cf_S F C (oc n) i (fun q => fL ((s * 128 + h) * 4 + q)) (fun q => yk (3 * (112 * s + (h + K s (h + 1) - cz_ s)) + q))) (g13 : K s (h + 1) = K s h + (if oc n = 10 then 1 else 0)) (g14 : cz_ s ≤ K s (h + 1)) (g15 : h + 1 + K s (h + 1) ≤ 16 * K s (h + 1) + lv n + cz_ s) (hn : fX (s * 128 + h) = ct_nx pc kd n (i + 1)) (hT : T s h + 4 * (E n - E (kd n i)) + 3 ≤ T s (h + 1)) (b1 : K s (h + 1) ≤ dep) (b2 : T s (h + 1) + 2 ≤ P s) (b3 : xh s = nI (h + 1)) (b4 : yt s = nI (h + 1 + K s (h + 1) - cz_ s)) (b5 : xc s = nI (K s (h + 1))) (b6 : yc s = nI (K s (h + 1))) (hk : (cr_K φ fu q w F C P pv ou)) (hv : cv_R F C cr gt) (hd : oc n = 5) (h0 : i = 0) : ∃ u2 v2 kx, xs_ (kx + 1) ((nI dep), (nI fu), xN, xL, (nI F), (nI V), (nI C), (nI s), (-2), cr, ec, en, ft, (nI q), (nI w), op, a, b, xp, fi, xl, nx, xo, fn, fe, vn, vo, vv, xst, xf, xr, xh, xc, fN, fX, fS, fT, fL, pv) u2 ∧ (∀ post : SY → Prop, post v2 → wpY_deliver post ((nI dep), (nI fu), yN, yi, yo, (nI V), (nI F), (nI C), (nI s), ft, (nI q), 0, 0, (-1), (nI w), 1, 0, gv, gt, op, a, b, pa, fi, nx, yp, wn, wu, gn, ge, wv, yl, ya, ye, yk, yt, yc, yst, yf, yr, ou) gt) ∧ cr_T op a b fi nx pa N oc pc E lv kd SC dep fu xN xL xp xl xo yN yi yo yp φ (kx + 1) u2 v2 := by
  have h7 := (cc_s h1).2
  have h6 := cc_dep h1
  have hKK : K s h ≤ K s (h + 1) := by omega
  have hh := cf_h ht (cc_FR h1) (by omega)
  have hN := ht.2.1
  have hl := (ht.2.2.2.2 n g1).2.2.2.1.2 (by omega)
  have hzl := cz_le s
  have hw : h + K s (h + 1) - cz_ s < 112 := by omega
  have o_ : op n = nI (oc n) := ct_op ht g1 rfl
  have b4' : yt s = nI (h + K s (h + 1) - cz_ s + 1) := by rw [b4]; exact congrArg nI (by omega)
  have hpn := (ht.2.2.2.2 n g1).1.2.2.2
  have yp_ := (hyp n g1).2
  have hEn := ct_E ht g1
  have hkd := (ht.2.2.2.2 n g1).2.2.2.2.2.1
  have hp3 : pc n = 3 := by
    have h3 := ct_mn' ht g1
    rw [hd] at h3
    have e1 : ct_mn 5 = 3 := rfl
    have e2 : ct_mx 5 = 3 := rfl
    omega
  subst h0
  have g6' : fT (s * 128 + h) = nI 0 := by rw [g6, hd]; rfl
  have k0 := hkd 0 (by omega)
  have k1 := hkd 1 (by omega)
  have k2 := hkd 2 (by omega)
  have j1 : E (kd n 0) ≤ kd n 1 := (k0.2.2.2.2.1 (by omega)).2.1
  have j2 : E (kd n 1) ≤ kd n 2 := (k1.2.2.2.2.1 (by omega)).2.1
  have l1 := ct_E ht k1.2.1
  have l2 := ct_E ht k2.2.1
  have m1 := ((ht.2.2.2.2 n g1).2.2.2.2.2.2 trivial).2.2.2 1 (by omega)
  have m2 := ((ht.2.2.2.2 n g1).2.2.2.2.2.2 trivial).2.2.2 2 (by omega)
  have hx1 : fX (s * 128 + h) = nI (kd n 1) := hn.trans (ct_nxl (by omega))
  have hx2 : nx (kd n 1) = nI (kd n 2) := (k1.2.2.2.2.1 (by omega)).1
  obtain ⟨z, hz, hfX, hfY⟩ := xy_false h1.1.1 h1.1.2.1 hv
  rcases hz with hz | hz
  · subst hz
    obtain ⟨φ', hφ, hk'⟩ := cr_P (P' := ch_ P s (T s h + 4 * (E n - kd n 1) + 3)) (d := 1) hk h7 rfl (by omega)
    have h2 : (cc_C N oc pc E lv kd a b SC F C V D K T fN fX fS (upd fT (s * 128 + h) (nI (0 + 1))) fL yl (upd ya (112 * s + (h + K s (h + 1) - cz_ s)) 1) ye yk P H dep xh xc yt yc fn fe gn ge vn vo vv wn wu wv xst xf xr yst yf yr Q k s h) := cc_fr ht h1 (by omega) (by omega) (fun _ _ _ => rfl) (fun _ _ _ => rfl) ca_r ca_r ca_r (ca_u ca_r (by omega) (by omega)) ca_r ca_r (ca_u ca_r (by omega) (by omega)) ca_r ca_r ca_r ca_r ca_r ca_r ca_r
    refine ⟨_, _, 0, xs_d (fun post K => x_del h7 (by omega) b3 (x_take5 h7 (by omega) b3 g5 (by omega) o_ (by omega) g6' hd (x_if0t hfX K))), fun post K => y_5a h7 b4' hw g8 (by omega) g9 yp_ (by omega) (by omega) o_ (by omega) hd rfl (fun q hq => hfY q _ hq) K, cr_rdy (i := 1) ht h2 g1 g2 (by omega) g4 g5 ?_ g7 g8 pk_us g10 (fun c hc => g11 c (ct_inS hc (by omega))) ?_ g13 g14 g15 hx1 b1 b3 b4 b5 b6 hφ hk'⟩
    · rw [pk_us, hd]; rfl
    · exact ⟨fun h => by omega, fun h => absurd hd h.1⟩
  · subst hz
    obtain ⟨φ', hφ, hk'⟩ := cr_P (P' := ch_ P s (T s h + 4 * (E n - kd n 2) + 3)) (d := 1) hk h7 rfl (by omega)
    have h2 : (cc_C N oc pc E lv kd a b SC F C V D K T fN (upd fX (s * 128 + h) (nx (kd n 1))) fS (upd fT (s * 128 + h) (nI (0 + 1))) fL yl (upd ya (112 * s + (h + K s (h + 1) - cz_ s)) 2) ye yk P H dep xh xc yt yc fn fe gn ge vn vo vv wn wu wv xst xf xr yst yf yr Q k s h) := cc_fr ht h1 (by omega) (by omega) (fun _ _ _ => rfl) (fun _ _ _ => rfl) ca_r (ca_u ca_r (by omega) (by omega)) ca_r (ca_u ca_r (by omega) (by omega)) ca_r ca_r (ca_u ca_r (by omega) (by omega)) ca_r ca_r ca_r ca_r ca_r ca_r ca_r
    refine ⟨_, _, 0, xs_d (fun post K => x_del h7 (by omega) b3 (x_take5 h7 (by omega) b3 g5 (by omega) o_ (by omega) g6' hd (x_if0f (by omega) (by omega) hx1 hfX K))), fun post K => y_5b h7 b4' hw g8 (by omega) g9 yp_ (by omega) (by omega) o_ (by omega) hd rfl (fun q hq => hfY q _ hq) K, cr_rdy (i := 2) ht h2 g1 g2 (by omega) g4 g5 ?_ g7 g8 pk_us g10 (fun c hc => g11 c (ct_inS hc (by omega))) ?_ g13 g14 g15 (pk_us.trans hx2) b1 b3 b4 b5 b6 hφ hk'⟩
    · rw [pk_us, hd]; rfl
    · exact ⟨fun h => by omega, fun h => absurd hd h.1⟩
end
