section
variable {yd yg yN yi yo yV yF yC ys yft ybt res yer ypl ypr rn hs : Int32} {gv gt : Int64} {op a b pa fi nx yp wn wu gn ge : Nat → Int32} {wv : Nat → Int64} {yl ya ye : Nat → Int32} {yk : Nat → Int64} {yt yc yst yf yr : Nat → Int32} {ou : Nat → Int64}
/-- the reference clears its strands -/
theorem y_r33 : ∀ d i, i + d = 7 → ∀ yt yc yst : Nat → Int32, (∀ r, r < i → yt r = 0 ∧ yc r = 0) → ∃ yt' yc' yst' : Nat → Int32, (∀ r, r < 7 → yt' r = 0 ∧ yc' r = 0) ∧ ∀ (post : Int32 → SY → Prop) (f : Nat), wpY_evaluate (fun u => ∃ n, yl_ post n u) (yd, yg, yN, yi, yo, yV, yF, yC, 0, 0, 0, 0, 0, (-1), 0, 1, 0, gv, gt, op, a, b, pa, fi, nx, yp, wn, wu, gn, ge, wv, yl, ya, ye, yk, yt', yc', yst', yf, yr, ou) 0 (-1) → wY_run_33 post yd yg yN yi yo yV yF yC ys yft ybt res yer ypl ypr rn hs gv gt (f + d + 1) (nI i) op a b pa fi nx yp wn wu gn ge wv yl ya ye yk yt yc yst yf yr ou := by
  intro d
  induction d with
  | zero =>
    intro i hi yt yc yst h
    obtain rfl : i = 7 := by omega
    exact ⟨yt, yc, yst, h, fun post f KK => br_t (by decide) KK⟩
  | succ d ih =>
    intro i hi yt yc yst h
    have e := nc_ (n := i) (by omega)
    have w := vi_ (n := i) (N := 7) (by omega) (by omega)
    obtain ⟨yt', yc', yst', g1, g2⟩ := ih (i + 1) (by omega) (upd yt i 0) (upd yc i 0) (upd yst i 0) (fun r hr => by
      by_cases hri : r = i
      · rw [hri, pk_us, pk_us]; exact ⟨rfl, rfl⟩
      · rw [pk_un hri, pk_un hri]; exact h r (by omega))
    refine ⟨yt', yc', yst', g1, fun post f KK => br_f (nI_ge (b := 7) (by omega) (by omega)) ⟨w, nm_r (e' := upd yt i 0) (by rw [e]) ⟨w, nm_r (e' := upd yc i 0) (by rw [e]) ⟨w, nm_r (e' := upd yst i 0) (by rw [e]) (nm_r (nI_1 i) ?_)⟩⟩⟩⟩
    exact g2 post f KK
end
section
variable {dep fu L N : Nat} {st oc pc E lv : Nat → Nat} {kd : Nat → Nat → Nat} {SC : Nat → Int32 → Prop} {xF xV xC xs ph : Int32} {cr : Int64} {ec en ft bt pr : Int32} {op a b xp fi xl nx xo fn fe vn vo : Nat → Int32} {vv : Nat → Int64} {xst xf xr xh xc fN fX fS fT : Nat → Int32} {fL pv : Nat → Int64} {ys yft res yer ypl rn hs : Int32} {gv gt : Int64} {pa yp wn wu gn ge : Nat → Int32} {wv : Nat → Int64} {yl ya ye : Nat → Int32} {yk : Nat → Int64} {yt yc yst yf yr : Nat → Int32} {ou : Nat → Int64}
theorem cr_fin {k : Nat} {u : SX} {v : SY} (h1 : 1 ≤ dep ∧ dep ≤ 6 ∧ fu ≤ 200) (hG : (cb_G L st N oc pc E lv kd SC op a b fi nx xp xl xo pa yp)) (hE : cr_E op a b fi nx pa dep fu (nI N) (nI L) xp xl xo (nI N) (cb_i L st) (nI L) yp u v) : i_Rel k u v := by
  obtain ⟨F, C, V, s, q, w, ph, ec, en, ft, res, yer, ypl, hs, cr, gv, gt, fn, fe, vn, vo, vv, xst, xf, xr, xh, xc, fN, fX, fS, fT, fL, pv, wn, wu, gn, ge, wv, yl, ya, ye, yk, yt, yc, yst, yf, yr, ou, rfl, rfl, e1, e2, e3, e4, ⟨p, p1, p2, p3, p4, p5, p6⟩, e6⟩ := hE
  exact ci_mk (k := k) (L := L) (N := N) (st := st) (bt := nI q) (pr := nI w) (xF := nI F) (xV := nI V) (xC := nI C) ⟨h1, hG, ⟨p, p1, p2, p3, fun h => cv_mono e1 e2 (p4 h), p5, p6⟩, w, e3, rfl, fun j h2 h3 => cv_mono e1 e2 (e6 j h2 h3)⟩
theorem i_vc_run {k : Nat} {u : SX} {v : SY} (I : i_Rel k u v) (hk : k + 4 ≤ 2050) : wpX_run (fun r u' => wpY_run (fun r' v' => r' = r ∧ i_Rel (k + 4) u' v') v) u := by
  have J := i_up I
  obtain ⟨dep, fu, L, N, st, oc, pc, E, lv, kd, SC, xF, xV, xC, xs, ph, cr, ec, en, ft, bt, pr, op, a, b, xp, fi, xl, nx, xo, fn, fe, vn, vo, vv, xst, xf, xr, xh, xc, fN, fX, fS, fT, fL, pv, ys, yft, res, yer, ypl, rn, hs, gv, gt, pa, yp, wn, wu, gn, ge, wv, yl, ya, ye, yk, yt, yc, yst, yf, yr, ou, rfl, rfl, h1, hG, h3⟩ := I
  have hG' := hG
  obtain ⟨⟨g1, g2, g3, g4⟩, g5, g6, g7, g8⟩ := hG
  unfold wpX_run
  dsimp only
  rcases Nat.eq_zero_or_pos N with hN | hN
  · subst hN
    refine br_t (by decide) (br_t rfl ?_)
    exact br_t rfl ⟨rfl, J⟩
  have nN := nI_ne0 hN (show N < 2147483648 by omega)
  rcases Nat.eq_zero_or_pos L with hL | hL
  · subst hL
    refine br_f (nI_nle hN (by omega)) (br_t rfl (br_f (by decide) ?_))
    refine nm_r (e' := upd xh 0 0) rfl (nm_r (e' := upd xc 0 0) rfl ?_)
    have hcl : (fun m => ∀ i, i < 0 → st i ≠ m) = (fun _ : Nat => True) := funext fun m => propext ⟨fun _ => trivial, fun _ i hi => by omega⟩
    have ht : (ct_all op a b fi nx pa N oc pc E lv kd SC) := by
      refine ⟨hN, g1, (g4 hN).1, (g4 hN).2, fun n hn => ?_⟩
      have := g6 n hn
      rw [hcl] at this
      exact this
    have hyp : ∀ n, n < N → xp n = nI (pc n) ∧ yp n = nI (pc n) := fun n hn => ⟨(g7 n hn).2.1 (fun i hi => by omega), (g7 n hn).1⟩
    obtain ⟨yt', yc', yst', t1, t2⟩ := y_r33 (yd := nI dep) (yg := nI fu) (yN := nI N) (yi := cb_i 0 st) (yo := nI 0) (yV := 0) (yF := 0) (yC := 0) (ys := ys) (yft := yft) (ybt := bt) (res := res) (yer := yer) (ypl := ypl) (ypr := pr) (rn := rn) (hs := hs) (gv := gv) (gt := gt) (op := op) (a := a) (b := b) (pa := pa) (fi := fi) (nx := nx) (yp := yp) (wn := wn) (wu := wu) (gn := gn) (ge := ge) (wv := wv) (yl := yl) (ya := ya) (ye := ye) (yk := yk) (yf := yf) (yr := yr) (ou := ou) 7 0 (by omega) yt yc yst (fun r hr => by omega)
    have hP0 : sm_ (fun r => if r = 0 then 400 else 0) 7 = 400 := rfl
    have hE0 := ct_E ht hN
    have hCC : cc_C N oc pc E lv kd a b SC 0 0 0 (fun _ _ => False) (fun _ _ => 0) (fun _ _ => 0) fN fX fS fT fL yl ya ye yk (fun r => if r = 0 then 400 else 0) (fun _ => 0) dep (upd xh 0 0) (upd xc 0 0) yt' yc' fn fe gn ge vn vo vv wn wu wv xst xf xr yst' yf yr (fun _ => 0) 0 0 0 :=
      ⟨⟨by omega, by omega, by omega, h1.2.1, h1.1, rfl⟩, fun _ => rfl, ⟨fun c h => h, fun v hv => by omega⟩, fun f hf => by omega, ⟨rfl, fun i j hi hj _ => by omega, fun i hi1 hi => by omega, fun i hi => by omega⟩, fun i hi => by omega, fun c hc1 hc => by omega, fun c hc1 hc => t1 c hc, fun j hj => by omega⟩
    obtain ⟨u1, u2, v2, j, e1, e2, e3, φ', e4, e5⟩ := ev_all (m := 0) (e := 0) (F := 0) (C := 0) (V := 0) (q := 0) (w := 0) (φ := 400 * (fu - 0) + 400) (xN := nI N) (xL := nI 0) (xp := xp) (xl := xl) (xo := xo) (yN := nI N) (yi := cb_i 0 st) (yo := nI 0) (yp := yp) (fu := fu) (ec := ec) (en := en) (ft := 0) (cr := cr) (gv := gv) (gt := gt) (pv := pv) (ou := ou) ht hyp hCC (by omega) pk_us (t1 0 (by omega)).1 pk_us (t1 0 (by omega)).2 (fun h => by omega) ⟨⟨by omega, h1.2.2, by rw [hP0], by omega⟩, fun j hj1 hj2 => by omega⟩ hN (by omega) (fun c hc => absurd hc ((g4 hN).2 c)) (by have := (g4 hN).1; omega) (by show 0 + 4 * (E 0 - 0) ≤ 400; omega)
    refine e1 _ ?_
    have fin : ∃ n, xl_ (fun r u' => wpY_run (fun r' v' => r' = r ∧ i_Rel (k + 4) u' v') ((nI dep), (nI fu), (nI N), (cb_i 0 st), (nI 0), xV, xF, xC, ys, yft, bt, res, yer, ypl, pr, rn, hs, gv, gt, op, a, b, pa, fi, nx, yp, wn, wu, gn, ge, wv, yl, ya, ye, yk, yt, yc, yst, yf, yr, ou)) n (nI 0) u1 := by
      refine ⟨φ' + 1 + j, e2 _ (φ' + 1) 0 (by omega) ?_⟩
      refine run_main ht hyp φ' u2 v2 e5 (0 + j) (φ' + 1) _ (by omega) (by omega) (fun u' v' hE hY => ?_)
      have hI := cr_fin (k := k + 4) h1 hG' hE
      refine br_f nN (br_t (show cb_i 0 st < 0 from (by decide : (-1 : Int32) < 0)) ⟨0 + 7 + 1, t2 _ 0 (e3 _ ?_)⟩)
      exact hY _ ⟨rfl, hI⟩
    obtain ⟨_, _, _, _, _, _, _, _, _, _, _, _, _, _, _, _, _, _, _, _, _, _, _, _, _, _, _, _, _, _, _, _, _, _, _, _, _, _, _⟩ := u1
    exact fin
  · refine br_f (nI_nle hN (by omega)) (br_f (nI_ne0 hL (by omega)) (br_t rfl ?_))
    refine br_f nN (br_f ?_ ⟨rfl, J⟩)
    unfold cb_i
    rw [if_neg (by omega)]
    exact nI_pos (by have := (g5 (L - 1) (by omega)).1; omega)
end
