section
variable {op a b fi nx pa : Nat → Int32} {N : Nat} {oc pc E lv : Nat → Nat} {kd : Nat → Nat → Nat} {SC : Nat → Int32 → Prop}
variable {F C V : Nat} {D : Nat → Int32 → Prop} {K T : Nat → Nat → Nat} {fN fX fS fT : Nat → Int32} {fL : Nat → Int64} {yl ya ye : Nat → Int32} {yk : Nat → Int64} {P H : Nat → Nat} {dep : Nat} {xh xc yt yc fn fe gn ge vn vo : Nat → Int32} {vv : Nat → Int64} {wn wu : Nat → Int32} {wv : Nat → Int64} {xst xf xr yst yf yr : Nat → Int32} {Q : Nat → Nat} {k s h : Nat}
variable {fu : Nat} {xN xL : Int32} {xp xl xo : Nat → Int32} {yN yi yo : Int32} {yp : Nat → Int32}
variable {ph ec en ft : Int32} {cr gv gt : Int64} {q w φ : Nat} {pv ou : Nat → Int64} {hs : Int32}
/-- X's loop and Y's loop on whole states -/
def xl_ (post : Int32 → SX → Prop) (n : Nat) (x1 : Int32) (u : SX) : Prop := match u with
  | (xd, xg, xN, xL, xF, xV, xC, xs, ph, cr, ec, en, ft, bt, pr, op, a, b, xp, fi, xl, nx, xo, fn, fe, vn, vo, vv, xst, xf, xr, xh, xc, fN, fX, fS, fT, fL, pv) => wX_run_21 post n x1 xd xg xN xL xF xV xC xs ph cr ec en ft bt pr op a b xp fi xl nx xo fn fe vn vo vv xst xf xr xh xc fN fX fS fT fL pv
def yl_ (post : Int32 → SY → Prop) (n : Nat) (v : SY) : Prop := match v with
  | (yd, yg, yN, yi, yo, yV, yF, yC, ys, yft, ybt, res, yer, ypl, ypr, rn, hs, gv, gt, op, a, b, pa, fi, nx, yp, wn, wu, gn, ge, wv, yl, ya, ye, yk, yt, yc, yst, yf, yr, ou) => wY_run_117 post n yd yg yN yi yo yV yF yC ys yft ybt res yer ypl ypr rn hs gv gt op a b pa fi nx yp wn wu gn ge wv yl ya ye yk yt yc yst yf yr ou
/-- k steps of X, one step of Y -/
def xs_ (k : Nat) (u u' : SX) : Prop := ∀ (post : Int32 → SX → Prop) (n q : Nat), q + k ≤ 1000000 → xl_ post n (nI (q + k)) u' → xl_ post (n + k) (nI q) u
def ys_ (v v' : SY) : Prop := ∀ (post : Int32 → SY → Prop) (n : Nat), yl_ post n v' → yl_ post (n + 1) v
theorem xs_0 (u : SX) : xs_ 0 u u := fun _ _ _ _ h => h
theorem xs_t {k1 k2 : Nat} {u1 u2 u3 : SX} (h1 : xs_ k1 u1 u2) (h2 : xs_ k2 u2 u3) : xs_ (k1 + k2) u1 u3 := by
  intro post n q hq h
  have e : n + (k1 + k2) = (n + k2) + k1 := by omega
  rw [e]
  refine h1 post (n + k2) q (by omega) (h2 post n (q + k1) (by omega) ?_)
  rw [show q + k1 + k2 = q + (k1 + k2) by omega]
  exact h
def cr_AT (K T : Nat → Nat → Nat) (P : Nat → Nat) (dep : Nat) (xh xc yt yc : Nat → Int32) (s h : Nat) : Prop :=
  (K s h ≤ dep ∧ T s h + 2 ≤ P s ∧ (1 ≤ s → 1 ≤ h)) ∧ xh s = nI h ∧ yt s = nI (h + K s h - cz_ s) ∧ xc s = nI (K s h) ∧ yc s = nI (K s h)
def cr_BT (K T : Nat → Nat → Nat) (P : Nat → Nat) (dep : Nat) (xh xc yt yc : Nat → Int32) (s h : Nat) : Prop :=
  (K s (h + 1) ≤ dep ∧ T s (h + 1) ≤ P s) ∧ xh s = nI (h + 1) ∧ yt s = nI (h + 1 + K s (h + 1) - cz_ s) ∧ xc s = nI (K s (h + 1)) ∧ yc s = nI (K s (h + 1))
/-- fuel, potential, what was printed -/
def cr_K (φ fu q w F C : Nat) (P : Nat → Nat) (pv ou : Nat → Int64) : Prop :=
  (q ≤ fu ∧ fu ≤ 200 ∧ φ = 400 * (fu - q) + sm_ P 7 ∧ w + φ ≤ 90000) ∧ ∀ j, j < 24 → j < w → cv_R F C (pv j) (ou j)
/-- a value is carried -/
def cr_A (op a b fi nx pa : Nat → Int32) (N : Nat) (oc pc E lv : Nat → Nat) (kd : Nat → Nat → Nat) (SC : Nat → Int32 → Prop) (dep fu : Nat) (xN xL : Int32) (xp xl xo : Nat → Int32) (yN yi yo : Int32) (yp : Nat → Int32) (φ : Nat) (u : SX) (v : SY) : Prop :=
  ∃ (F C V : Nat) (D : Nat → Int32 → Prop) (K T : Nat → Nat → Nat) (P H : Nat → Nat) (Q : Nat → Nat) (k s h q w : Nat) (ec en ft : Int32) (cr gv gt : Int64) (fn fe vn vo : Nat → Int32) (vv : Nat → Int64) (xst xf xr xh xc fN fX fS fT : Nat → Int32) (fL pv : Nat → Int64) (wn wu gn ge : Nat → Int32) (wv : Nat → Int64) (yl ya ye : Nat → Int32) (yk : Nat → Int64) (yt yc yst yf yr : Nat → Int32) (ou : Nat → Int64),
    u = ((nI dep), (nI fu), xN, xL, (nI F), (nI V), (nI C), (nI s), (-2), cr, ec, en, ft, (nI q), (nI w), op, a, b, xp, fi, xl, nx, xo, fn, fe, vn, vo, vv, xst, xf, xr, xh, xc, fN, fX, fS, fT, fL, pv) ∧ v = ((nI dep), (nI fu), yN, yi, yo, (nI V), (nI F), (nI C), (nI s), ft, (nI q), 0, 0, (-1), (nI w), 1, 1, gv, gt, op, a, b, pa, fi, nx, yp, wn, wu, gn, ge, wv, yl, ya, ye, yk, yt, yc, yst, yf, yr, ou) ∧ (cc_C N oc pc E lv kd a b SC F C V D K T fN fX fS fT fL yl ya ye yk P H dep xh xc yt yc fn fe gn ge vn vo vv wn wu wv xst xf xr yst yf yr Q k s h) ∧ (cr_AT K T P dep xh xc yt yc s h) ∧ (cr_K φ fu q w F C P pv ou) ∧ cv_R F C cr gt
/-- the top frame's part is next -/
def cr_B (op a b fi nx pa : Nat → Int32) (N : Nat) (oc pc E lv : Nat → Nat) (kd : Nat → Nat → Nat) (SC : Nat → Int32 → Prop) (dep fu : Nat) (xN xL : Int32) (xp xl xo : Nat → Int32) (yN yi yo : Int32) (yp : Nat → Int32) (φ : Nat) (u : SX) (v : SY) : Prop :=
  ∃ (F C V : Nat) (D : Nat → Int32 → Prop) (K T : Nat → Nat → Nat) (P H : Nat → Nat) (Q : Nat → Nat) (k s h q w : Nat) (ec en ft : Int32) (cr gv gt : Int64) (fn fe vn vo : Nat → Int32) (vv : Nat → Int64) (xst xf xr xh xc fN fX fS fT : Nat → Int32) (fL pv : Nat → Int64) (wn wu gn ge : Nat → Int32) (wv : Nat → Int64) (yl ya ye : Nat → Int32) (yk : Nat → Int64) (yt yc yst yf yr : Nat → Int32) (ou : Nat → Int64),
    u = ((nI dep), (nI fu), xN, xL, (nI F), (nI V), (nI C), (nI s), (-1), cr, ec, en, ft, (nI q), (nI w), op, a, b, xp, fi, xl, nx, xo, fn, fe, vn, vo, vv, xst, xf, xr, xh, xc, fN, fX, fS, fT, fL, pv) ∧ v = ((nI dep), (nI fu), yN, yi, yo, (nI V), (nI F), (nI C), (nI s), ft, (nI q), 0, 0, (-1), (nI w), 1, 0, gv, gt, op, a, b, pa, fi, nx, yp, wn, wu, gn, ge, wv, yl, ya, ye, yk, yt, yc, yst, yf, yr, ou) ∧ (cc_C N oc pc E lv kd a b SC F C V D K T fN fX fS fT fL yl ya ye yk P H dep xh xc yt yc fn fe gn ge vn vo vv wn wu wv xst xf xr yst yf yr Q k s h) ∧ (cf_RX N oc pc E lv kd a b SC F C V D K T fN fX fS fT fL yl ya ye yk s h) ∧ (cr_BT K T P dep xh xc yt yc s h) ∧ (cr_K φ fu q w F C P pv ou)
/-- the answers of a run that has ended -/
def cr_O (F C : Nat) (ph : Int32) (cr : Int64) (ec en : Int32) (res yer ypl : Int32) (gv : Int64) : Prop :=
  ∃ p, p ≤ 3 ∧ ph = nI p ∧ res = nI p ∧ (p = 0 → cv_R F C cr gv) ∧ (p = 1 → yer = ec ∧ ypl = en) ∧ (p ≠ 1 → yer = 0 ∧ ypl = -1)
/-- the run has ended -/
def cr_E (op a b fi nx pa : Nat → Int32) (dep fu : Nat) (xN xL : Int32) (xp xl xo : Nat → Int32) (yN yi yo : Int32) (yp : Nat → Int32) (u : SX) (v : SY) : Prop :=
  ∃ (F C V s q w : Nat) (ph ec en ft res yer ypl hs : Int32) (cr gv gt : Int64) (fn fe vn vo : Nat → Int32) (vv : Nat → Int64) (xst xf xr xh xc fN fX fS fT : Nat → Int32) (fL pv : Nat → Int64) (wn wu gn ge : Nat → Int32) (wv : Nat → Int64) (yl ya ye : Nat → Int32) (yk : Nat → Int64) (yt yc yst yf yr : Nat → Int32) (ou : Nat → Int64),
    u = ((nI dep), (nI fu), xN, xL, (nI F), (nI V), (nI C), (nI s), ph, cr, ec, en, ft, (nI q), (nI w), op, a, b, xp, fi, xl, nx, xo, fn, fe, vn, vo, vv, xst, xf, xr, xh, xc, fN, fX, fS, fT, fL, pv) ∧ v = ((nI dep), (nI fu), yN, yi, yo, (nI V), (nI F), (nI C), (nI s), ft, (nI q), res, yer, ypl, (nI w), 0, hs, gv, gt, op, a, b, pa, fi, nx, yp, wn, wu, gn, ge, wv, yl, ya, ye, yk, yt, yc, yst, yf, yr, ou) ∧ F ≤ 40 ∧ C ≤ 6 ∧ w ≤ 90000 ∧ 0 ≤ ph ∧ cr_O F C ph cr ec en res yer ypl gv ∧ ∀ j, j < 24 → j < w → cv_R F C (pv j) (ou j)
/-- related states, d X steps below potential φ -/
def cr_T (op a b fi nx pa : Nat → Int32) (N : Nat) (oc pc E lv : Nat → Nat) (kd : Nat → Nat → Nat) (SC : Nat → Int32 → Prop) (dep fu : Nat) (xN xL : Int32) (xp xl xo : Nat → Int32) (yN yi yo : Int32) (yp : Nat → Int32) (φ d : Nat) (u : SX) (v : SY) : Prop :=
  ∃ φ', φ' + d ≤ φ ∧ (cr_A op a b fi nx pa N oc pc E lv kd SC dep fu xN xL xp xl xo yN yi yo yp φ' u v ∨ cr_B op a b fi nx pa N oc pc E lv kd SC dep fu xN xL xp xl xo yN yi yo yp φ' u v ∨ cr_E op a b fi nx pa dep fu xN xL xp xl xo yN yi yo yp u v)
theorem cr_mkA {d φ' : Nat} (hφ : φ' + d ≤ φ) (h1 : (cc_C N oc pc E lv kd a b SC F C V D K T fN fX fS fT fL yl ya ye yk P H dep xh xc yt yc fn fe gn ge vn vo vv wn wu wv xst xf xr yst yf yr Q k s h)) (h2 : (cr_AT K T P dep xh xc yt yc s h)) (h3 : (cr_K φ' fu q w F C P pv ou)) (h4 : cv_R F C cr gt) : cr_T op a b fi nx pa N oc pc E lv kd SC dep fu xN xL xp xl xo yN yi yo yp φ d ((nI dep), (nI fu), xN, xL, (nI F), (nI V), (nI C), (nI s), (-2), cr, ec, en, ft, (nI q), (nI w), op, a, b, xp, fi, xl, nx, xo, fn, fe, vn, vo, vv, xst, xf, xr, xh, xc, fN, fX, fS, fT, fL, pv) ((nI dep), (nI fu), yN, yi, yo, (nI V), (nI F), (nI C), (nI s), ft, (nI q), 0, 0, (-1), (nI w), 1, 1, gv, gt, op, a, b, pa, fi, nx, yp, wn, wu, gn, ge, wv, yl, ya, ye, yk, yt, yc, yst, yf, yr, ou) :=
  ⟨φ', hφ, Or.inl ⟨F, C, V, D, K, T, P, H, Q, k, s, h, q, w, ec, en, ft, cr, gv, gt, fn, fe, vn, vo, vv, xst, xf, xr, xh, xc, fN, fX, fS, fT, fL, pv, wn, wu, gn, ge, wv, yl, ya, ye, yk, yt, yc, yst, yf, yr, ou, rfl, rfl, h1, h2, h3, h4⟩⟩
theorem cr_mkB {d φ' : Nat} (hφ : φ' + d ≤ φ) (h1 : (cc_C N oc pc E lv kd a b SC F C V D K T fN fX fS fT fL yl ya ye yk P H dep xh xc yt yc fn fe gn ge vn vo vv wn wu wv xst xf xr yst yf yr Q k s h)) (h4 : (cf_RX N oc pc E lv kd a b SC F C V D K T fN fX fS fT fL yl ya ye yk s h)) (h2 : (cr_BT K T P dep xh xc yt yc s h)) (h3 : (cr_K φ' fu q w F C P pv ou)) : cr_T op a b fi nx pa N oc pc E lv kd SC dep fu xN xL xp xl xo yN yi yo yp φ d ((nI dep), (nI fu), xN, xL, (nI F), (nI V), (nI C), (nI s), (-1), cr, ec, en, ft, (nI q), (nI w), op, a, b, xp, fi, xl, nx, xo, fn, fe, vn, vo, vv, xst, xf, xr, xh, xc, fN, fX, fS, fT, fL, pv) ((nI dep), (nI fu), yN, yi, yo, (nI V), (nI F), (nI C), (nI s), ft, (nI q), 0, 0, (-1), (nI w), 1, 0, gv, gt, op, a, b, pa, fi, nx, yp, wn, wu, gn, ge, wv, yl, ya, ye, yk, yt, yc, yst, yf, yr, ou) :=
  ⟨φ', hφ, Or.inr (Or.inl ⟨F, C, V, D, K, T, P, H, Q, k, s, h, q, w, ec, en, ft, cr, gv, gt, fn, fe, vn, vo, vv, xst, xf, xr, xh, xc, fN, fX, fS, fT, fL, pv, wn, wu, gn, ge, wv, yl, ya, ye, yk, yt, yc, yst, yf, yr, ou, rfl, rfl, h1, h4, h2, h3⟩)⟩
theorem cr_mkE {d : Nat} {res yer ypl : Int32} (hφ : d ≤ φ) (h1 : F ≤ 40) (h2 : C ≤ 6) (hw : w ≤ 90000) (h3 : 0 ≤ ph) (h4 : cr_O F C ph cr ec en res yer ypl gv) (h5 : ∀ j, j < 24 → j < w → cv_R F C (pv j) (ou j)) : cr_T op a b fi nx pa N oc pc E lv kd SC dep fu xN xL xp xl xo yN yi yo yp φ d ((nI dep), (nI fu), xN, xL, (nI F), (nI V), (nI C), (nI s), ph, cr, ec, en, ft, (nI q), (nI w), op, a, b, xp, fi, xl, nx, xo, fn, fe, vn, vo, vv, xst, xf, xr, xh, xc, fN, fX, fS, fT, fL, pv) ((nI dep), (nI fu), yN, yi, yo, (nI V), (nI F), (nI C), (nI s), ft, (nI q), res, yer, ypl, (nI w), 0, hs, gv, gt, op, a, b, pa, fi, nx, yp, wn, wu, gn, ge, wv, yl, ya, ye, yk, yt, yc, yst, yf, yr, ou) :=
  ⟨0, by omega, Or.inr (Or.inr ⟨F, C, V, s, q, w, ph, ec, en, ft, res, yer, ypl, hs, cr, gv, gt, fn, fe, vn, vo, vv, xst, xf, xr, xh, xc, fN, fX, fS, fT, fL, pv, wn, wu, gn, ge, wv, yl, ya, ye, yk, yt, yc, yst, yf, yr, ou, rfl, rfl, h1, h2, hw, h3, h4, h5⟩)⟩
/-- the potential when strand s gets another share -/
theorem cr_P {P' : Nat → Nat} {m d : Nat} (h : (cr_K φ fu q w F C P pv ou)) (hs7 : s < 7) (hP : P' = ch_ P s m) (hd : m + d ≤ P s) : ∃ φ', φ' + d ≤ φ ∧ (cr_K φ' fu q w F C P' pv ou) := by
  obtain ⟨⟨h1, h2, h3, h4⟩, h5⟩ := h
  have hm := sm_u (f := P) (s := s) (v := m) 7 hs7
  have e : sm_ P' 7 = sm_ (fun r => if r = s then m else P r) 7 := by rw [hP]; rfl
  refine ⟨400 * (fu - q) + sm_ P' 7, by omega, ⟨h1, h2, rfl, by omega⟩, h5⟩
end
section
variable {xd xg xN xL xF xV xC xs ph : Int32} {cr : Int64} {ec en ft bt pr : Int32} {op a b xp fi xl nx xo fn fe vn vo : Nat → Int32} {vv : Nat → Int64} {xst xf xr xh xc fN fX fS fT : Nat → Int32} {fL pv : Nat → Int64}
theorem xs_d {u' : SX} (H : ∀ post : SX → Prop, post u' → wpX_deliver post (xd, xg, xN, xL, xF, xV, xC, xs, (-2), cr, ec, en, ft, bt, pr, op, a, b, xp, fi, xl, nx, xo, fn, fe, vn, vo, vv, xst, xf, xr, xh, xc, fN, fX, fS, fT, fL, pv)) : xs_ 1 (xd, xg, xN, xL, xF, xV, xC, xs, (-2), cr, ec, en, ft, bt, pr, op, a, b, xp, fi, xl, nx, xo, fn, fe, vn, vo, vv, xst, xf, xr, xh, xc, fN, fX, fS, fT, fL, pv) u' := by
  intro post n q hq h
  have hlt : ¬ (1000000 : Int32) ≤ nI q := nI_ge (b := 1000000) (by omega) (by decide)
  refine br_f hlt (br_f (by decide) (br_t rfl (H _ ?_)))
  obtain ⟨_, _, _, _, _, _, _, _, _, _, _, _, _, _, _, _, _, _, _, _, _, _, _, _, _, _, _, _, _, _, _, _, _, _, _, _, _, _, _⟩ := u'
  exact nm_r (nI_1 q) h
theorem xs_a {u' : SX} (H : ∀ post : SX → Prop, post u' → wpX_advance post (xd, xg, xN, xL, xF, xV, xC, xs, (-1), cr, ec, en, ft, bt, pr, op, a, b, xp, fi, xl, nx, xo, fn, fe, vn, vo, vv, xst, xf, xr, xh, xc, fN, fX, fS, fT, fL, pv)) : xs_ 1 (xd, xg, xN, xL, xF, xV, xC, xs, (-1), cr, ec, en, ft, bt, pr, op, a, b, xp, fi, xl, nx, xo, fn, fe, vn, vo, vv, xst, xf, xr, xh, xc, fN, fX, fS, fT, fL, pv) u' := by
  intro post n q hq h
  have hlt : ¬ (1000000 : Int32) ≤ nI q := nI_ge (b := 1000000) (by omega) (by decide)
  refine br_f hlt (br_f (by decide) (br_f (by decide) (H _ ?_)))
  obtain ⟨_, _, _, _, _, _, _, _, _, _, _, _, _, _, _, _, _, _, _, _, _, _, _, _, _, _, _, _, _, _, _, _, _, _, _, _, _, _, _⟩ := u'
  exact nm_r (nI_1 q) h
end
section
variable {yd yg yN yi yo yV yF yC ys yft ybt res yer ypl ypr rn hs : Int32} {gv gt : Int64} {op a b pa fi nx yp wn wu gn ge : Nat → Int32} {wv : Nat → Int64} {yl ya ye : Nat → Int32} {yk : Nat → Int64} {yt yc yst yf yr : Nat → Int32} {ou : Nat → Int64}
theorem ys_d {v' : SY} (H : ∀ post : SY → Prop, post v' → wpY_deliver post (yd, yg, yN, yi, yo, yV, yF, yC, ys, yft, ybt, res, yer, ypl, ypr, 1, 0, gv, gt, op, a, b, pa, fi, nx, yp, wn, wu, gn, ge, wv, yl, ya, ye, yk, yt, yc, yst, yf, yr, ou) gt) : ys_ (yd, yg, yN, yi, yo, yV, yF, yC, ys, yft, ybt, res, yer, ypl, ypr, 1, 1, gv, gt, op, a, b, pa, fi, nx, yp, wn, wu, gn, ge, wv, yl, ya, ye, yk, yt, yc, yst, yf, yr, ou) v' := by
  intro post n h
  refine br_f (by decide) (br_f (by decide) (H _ ?_))
  obtain ⟨_, _, _, _, _, _, _, _, _, _, _, _, _, _, _, _, _, _, _, _, _, _, _, _, _, _, _, _, _, _, _, _, _, _, _, _, _, _, _, _, _⟩ := v'
  exact h
end
