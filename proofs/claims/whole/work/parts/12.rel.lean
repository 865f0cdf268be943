section
variable {op a b fi nx pa : Nat → Int32} {N : Nat} {oc pc E lv : Nat → Nat} {kd : Nat → Nat → Nat} {SC : Nat → Int32 → Prop}
variable {F C V : Nat} {D : Nat → Int32 → Prop} {K T : Nat → Nat → Nat} {fN fX fS fT : Nat → Int32} {fL : Nat → Int64} {yl ya ye : Nat → Int32} {yk : Nat → Int64} {P H : Nat → Nat} {dep : Nat} {xh xc yt yc fn fe gn ge vn vo : Nat → Int32} {vv : Nat → Int64} {wn wu : Nat → Int32} {wv : Nat → Int64} {xst xf xr yst yf yr : Nat → Int32} {Q : Nat → Nat} {k s h : Nat}
variable {fu : Nat} {xN xL : Int32} {xp xl xo : Nat → Int32} {yN yi yo : Int32} {yp : Nat → Int32}
variable {ph ec en ft : Int32} {cr gv gt : Int64} {q w φ : Nat} {pv ou : Nat → Int64} {hs : Int32}
theorem ca_c {P : Nat → Nat} {s v : Nat} : ca_ s (s + 1) P (ch_ P s v) := ca_p
theorem cf_h (ht : (ct_all op a b fi nx pa N oc pc E lv kd SC)) (h1 : (cf_FR N oc pc E lv kd a b SC F C V D K T fN fX fS fT fL yl ya ye yk s h)) (hK : K s h ≤ 6) : h ≤ 107 ∧ h + K s h ≤ 112 + cz_ s := by
  rcases Nat.eq_zero_or_pos h with hz | hz
  · have := cz_le s; omega
  · have k1 := cf_Kle h1 0 h (by omega)
    have := cf_bd ht (h1 (h - 1) (by omega)) (by rw [show h - 1 + 1 = h by omega]; exact hK)
    rw [show h - 1 + 1 = h by omega] at this
    omega
theorem cf_z (ht : (ct_all op a b fi nx pa N oc pc E lv kd SC)) (h1 : (cf_FR N oc pc E lv kd a b SC F C V D K T fN fX fS fT fL yl ya ye yk s h)) (hK : K s h ≤ 6) (hsh : 1 ≤ s → 1 ≤ h) : cz_ s ≤ K s h := by
  rcases Nat.eq_zero_or_pos s with hz | hz
  · rw [hz, cz_0]; exact Nat.zero_le _
  · have := cf_bd ht (h1 (h - 1) (by have := hsh hz; omega)) (by rw [show h - 1 + 1 = h by have := hsh hz; omega]; exact hK)
    rw [show h - 1 + 1 = h by have := hsh hz; omega] at this
    exact this.2.2
theorem cc_FR (h1 : (cc_C N oc pc E lv kd a b SC F C V D K T fN fX fS fT fL yl ya ye yk P H dep xh xc yt yc fn fe gn ge vn vo vv wn wu wv xst xf xr yst yf yr Q k s h)) : (cf_FR N oc pc E lv kd a b SC F C V D K T fN fX fS fT fL yl ya ye yk s h) := h1.2.2.2.2.2.2.2.2
theorem cc_dep (h1 : (cc_C N oc pc E lv kd a b SC F C V D K T fN fX fS fT fL yl ya ye yk P H dep xh xc yt yc fn fe gn ge vn vo vv wn wu wv xst xf xr yst yf yr Q k s h)) : dep ≤ 6 := h1.1.2.2.2.1
/-- the top frame is gone, a value is carried -/
theorem cr_pop {d : Nat} (ht : (ct_all op a b fi nx pa N oc pc E lv kd SC)) (h1 : (cc_C N oc pc E lv kd a b SC F C V D K T fN fX fS fT fL yl ya ye yk P H dep xh xc yt yc fn fe gn ge vn vo vv wn wu wv xst xf xr yst yf yr Q k s h)) (hK : K s h ≤ dep) (hx : xc s = nI (K s h)) (hy : yc s = nI (K s h)) (hsh : 1 ≤ s → 1 ≤ h) (hk : (cr_K φ fu q w F C P pv ou)) (hd : T s h + 2 + d ≤ P s) (hv : cv_R F C cr gt) :
    cr_T op a b fi nx pa N oc pc E lv kd SC dep fu xN xL xp xl xo yN yi yo yp φ d ((nI dep), (nI fu), xN, xL, (nI F), (nI V), (nI C), (nI s), (-2), cr, ec, en, ft, (nI q), (nI w), op, a, b, xp, fi, xl, nx, xo, fn, fe, vn, vo, vv, xst, xf, xr, (upd xh s (nI h)), xc, fN, fX, fS, fT, fL, pv) ((nI dep), (nI fu), yN, yi, yo, (nI V), (nI F), (nI C), (nI s), ft, (nI q), 0, 0, (-1), (nI w), 1, 1, gv, gt, op, a, b, pa, fi, nx, yp, wn, wu, gn, ge, wv, yl, ya, ye, yk, (upd yt s (nI (h + K s h - cz_ s))), yc, yst, yf, yr, ou) := by
  have h7 := (cc_s h1).2
  have h6 := cc_dep h1
  have hh := cf_h ht (cc_FR h1) (by omega)
  obtain ⟨φ', hφ, hk'⟩ := cr_P (P' := ch_ P s (T s h + 2)) hk h7 rfl hd
  refine cr_mkA hφ (cc_fr ht h1 (by omega) (by omega) (fun _ _ _ => rfl) (fun _ _ _ => rfl) ca_r ca_r ca_r ca_r ca_r ca_r ca_r ca_r ca_r ca_c (ca_u ca_r (by omega) (by omega)) ca_r (ca_u ca_r (by omega) (by omega)) ca_r) ⟨⟨hK, ?_, hsh⟩, pk_us, pk_us, hx, hy⟩ hk' hv
  rw [ch_s]; exact Nat.le_refl _
/-- strand s gives the turn back -/
theorem cr_leave {d m wd : Nat} {val vy : Int64} (ht : (ct_all op a b fi nx pa N oc pc E lv kd SC)) (h1 : (cc_C N oc pc E lv kd a b SC F C V D K T fN fX fS fT fL yl ya ye yk P H dep xh xc yt yc fn fe gn ge vn vo vv wn wu wv xst xf xr yst yf yr Q k s h)) (hK : K s h ≤ dep) (hk : (cr_K φ fu q w F C P pv ou)) (h0 : 1 ≤ s) (hw : wd = 0 ∨ wd = 2) (hm : m + d ≤ P s) (hSu : wd = 0 → (cs_S N oc pc E lv kd a b SC F C V D K T fN fX fS fT fL yl ya ye yk (ch_ P s m) (ch_ H s h) dep xh xc yt yc s)) (hv : cv_R F C val vy) :
    ∃ r j, r < 7 ∧ r ≠ s ∧ xr s = nI r ∧ yr s = nI r ∧ xh r = nI (j + 1) ∧ yt r = nI (j + K r j - cz_ r + 1) ∧ j + K r j - cz_ r < 112 ∧
      cr_T op a b fi nx pa N oc pc E lv kd SC dep fu xN xL xp xl xo yN yi yo yp φ d ((nI dep), (nI fu), xN, xL, (nI F), (nI V), (nI C), (nI r), (-2), val, ec, en, ft, (nI q), (nI w), op, a, b, xp, fi, xl, nx, xo, fn, fe, vn, vo, vv, (upd xst s (nI wd)), xf, xr, (upd xh r (nI j)), xc, fN, fX, fS, fT, fL, pv) ((nI dep), (nI fu), yN, yi, yo, (nI V), (nI F), (nI C), (nI r), ft, (nI q), 0, 0, (-1), (nI w), 1, 1, gv, vy, op, a, b, pa, fi, nx, yp, wn, wu, gn, ge, wv, yl, ya, ye, yk, (upd yt r (nI (j + K r j - cz_ r))), yc, (upd yst s (nI wd)), yf, yr, ou) := by
  have h7 := (cc_s h1).2
  have h6 := cc_dep h1
  have hh := cf_h ht (cc_FR h1) (by omega)
  obtain ⟨φ', hφ, hk'⟩ := cr_P (P' := ch_ P s m) hk h7 rfl hm
  have h2 : (cc_C N oc pc E lv kd a b SC F C V D K T fN fX fS fT fL yl ya ye yk (ch_ P s m) H dep xh xc yt yc fn fe gn ge vn vo vv wn wu wv xst xf xr yst yf yr Q k s h) := cc_fr ht h1 (by omega) (by omega) (fun _ _ _ => rfl) (fun _ _ _ => rfl) ca_r ca_r ca_r ca_r ca_r ca_r ca_r ca_r ca_r ca_c ca_r ca_r ca_r ca_r
  have hk1 : ∃ n, k = n + 1 := by
    rcases Nat.eq_zero_or_pos k with hz | hz
    · have e1 := h1.1.2.2.2.2.2
      have e2 := h1.2.2.2.2.1.1
      rw [hz] at e1; omega
    · exact ⟨k - 1, by omega⟩
  obtain ⟨n, hn⟩ := hk1
  obtain ⟨g1, _, g3, g4, g5, g6, g7⟩ := cc_lv h2 hn (w := wd) (by omega) (by omega) hSu
  obtain ⟨e1, ⟨e2, e3, e4, e5, e6⟩, ⟨e7, e8, e9, e10⟩, _⟩ := g7
  refine ⟨Q n, H (Q n), g4, g3, g5, g6, e7, ?_, by omega, ?_⟩
  · rw [e8]; exact congrArg nI (by omega)
  · refine cr_mkA hφ (cc_fr ht g1 (by omega) (by have := cf_h ht e1 (by omega); omega) (fun _ _ _ => rfl) (fun _ _ _ => rfl) ca_r ca_r ca_r ca_r ca_r ca_r ca_r ca_r ca_r ca_r (ca_u ca_r (by omega) (by omega)) ca_r (ca_u ca_r (by omega) (by omega)) ca_r) ⟨⟨e2, e4, fun h => by rw [cz_1 h] at e3; exact e3⟩, pk_us, pk_us, e9, e10⟩ hk' hv
/-- an error is raised -/
theorem cr_raise {d : Nat} (ht : (ct_all op a b fi nx pa N oc pc E lv kd SC)) (h1 : (cc_C N oc pc E lv kd a b SC F C V D K T fN fX fS fT fL yl ya ye yk P H dep xh xc yt yc fn fe gn ge vn vo vv wn wu wv xst xf xr yst yf yr Q k s h)) (hK : K s h ≤ dep) (hk : (cr_K φ fu q w F C P pv ou)) (hd : d ≤ P s) (hdφ : d ≤ φ) (code nd : Int32) :
    ∃ u' v', (∀ post : SX → Prop, post u' → wpX_raise post ((nI dep), (nI fu), xN, xL, (nI F), (nI V), (nI C), (nI s), ph, cr, ec, en, ft, (nI q), (nI w), op, a, b, xp, fi, xl, nx, xo, fn, fe, vn, vo, vv, xst, xf, xr, xh, xc, fN, fX, fS, fT, fL, pv) code nd) ∧ (∀ post : SY → Prop, post v' → wpY_raise post ((nI dep), (nI fu), yN, yi, yo, (nI V), (nI F), (nI C), (nI s), ft, (nI q), 0, 0, (-1), (nI w), 1, hs, gv, gt, op, a, b, pa, fi, nx, yp, wn, wu, gn, ge, wv, yl, ya, ye, yk, yt, yc, yst, yf, yr, ou) code nd) ∧ cr_T op a b fi nx pa N oc pc E lv kd SC dep fu xN xL xp xl xo yN yi yo yp φ d u' v' := by
  rcases Nat.eq_zero_or_pos s with hz | hz
  · subst hz
    exact ⟨_, _, fun post K => x_raise0 K, fun post K => y_raise0 K, cr_mkE hdφ h1.1.1 h1.1.2.1 (by have := hk.1.2.2.2; omega) (by decide) ⟨1, by omega, rfl, rfl, fun h => by omega, fun _ => ⟨rfl, rfl⟩, fun h => absurd rfl h⟩ hk.2⟩
  · obtain ⟨r, j, g1, g2, g3, g4, g5, g6, g7, g8⟩ := cr_leave (m := 0) (wd := 2) (d := d) (ft := code) ht h1 hK hk hz (Or.inr rfl) (by omega) (fun h => by omega) cv_nil
    exact ⟨_, _, fun post K => x_raise1 hz (cc_s h1).2 g1 g3 g5 K, fun post K => y_raise1 hz (cc_s h1).2 g1 g4 g6 K, g8⟩
theorem cr_beat {P' : Nat → Nat} {m d : Nat} (h : (cr_K φ fu q w F C P pv ou)) (hs7 : s < 7) (hq : q < fu) (hP : P' = ch_ P s m) (hd : m + d ≤ P s + 400) : ∃ φ', φ' + d ≤ φ ∧ (cr_K φ' fu (q + 1) w F C P' pv ou) := by
  obtain ⟨⟨h1, h2, h3, h4⟩, h5⟩ := h
  have hm := sm_u (f := P) (s := s) (v := m) 7 hs7
  have e : sm_ P' 7 = sm_ (fun r => if r = s then m else P r) 7 := by rw [hP]; rfl
  refine ⟨400 * (fu - (q + 1)) + sm_ P' 7, by omega, ⟨by omega, h2, rfl, by omega⟩, h5⟩
/-- the fuel is used up -/
theorem cr_fuel {d : Nat} (hF : F ≤ 40) (hC : C ≤ 6) (hk : (cr_K φ fu q w F C P pv ou)) (hd : d ≤ φ) : cr_T op a b fi nx pa N oc pc E lv kd SC dep fu xN xL xp xl xo yN yi yo yp φ d ((nI dep), (nI fu), xN, xL, (nI F), (nI V), (nI C), (nI s), 2, cr, ec, en, ft, (nI q), (nI w), op, a, b, xp, fi, xl, nx, xo, fn, fe, vn, vo, vv, xst, xf, xr, xh, xc, fN, fX, fS, fT, fL, pv) ((nI dep), (nI fu), yN, yi, yo, (nI V), (nI F), (nI C), (nI s), ft, (nI q), 2, 0, (-1), (nI w), 0, hs, 4294967296, gt, op, a, b, pa, fi, nx, yp, wn, wu, gn, ge, wv, yl, ya, ye, yk, yt, yc, yst, yf, yr, ou) :=
  cr_mkE hd hF hC (by have := hk.1.2.2.2; omega) (by decide) ⟨2, by omega, rfl, rfl, fun h => by omega, fun h => by omega, fun _ => ⟨rfl, rfl⟩⟩ hk.2
theorem cr_Kmono {F' C' : Nat} (h : (cr_K φ fu q w F C P pv ou)) (hF : F ≤ F') (hC : C ≤ C') : (cr_K φ fu q w F' C' P pv ou) := ⟨h.1, fun j h1 h2 => cv_mono hF hC (h.2 j h1 h2)⟩
end
