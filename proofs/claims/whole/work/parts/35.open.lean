section
variable {dep fu L N : Nat} {st oc pc E lv : Nat → Nat} {kd : Nat → Nat → Nat} {SC : Nat → Int32 → Prop} {xF xV xC xs ph : Int32} {cr : Int64} {ec en ft bt pr : Int32} {op a b xp fi xl nx xo fn fe vn vo : Nat → Int32} {vv : Nat → Int64} {xst xf xr xh xc fN fX fS fT : Nat → Int32} {fL pv : Nat → Int64} {ys yft res yer ypl rn hs : Int32} {gv gt : Int64} {pa yp wn wu gn ge : Nat → Int32} {wv : Nat → Int64} {yl ya ye : Nat → Int32} {yk : Nat → Int64} {yt yc yst yf yr : Nat → Int32} {ou : Nat → Int64}
/-- the operands fit or not, both sides -/
theorem bd_fit {v1 v2 v3 : Int32} (hG : (cb_G L st N oc pc E lv kd SC op a b fi nx xp xl xo pa yp)) (rY : ∀ q : Int32 → Prop, q 1 → wpY_room q ((nI dep), (nI fu), (nI N), (cb_i L st), (nI L), xV, xF, xC, ys, yft, bt, res, yer, ypl, pr, rn, hs, gv, gt, op, a, b, pa, fi, nx, yp, wn, wu, gn, ge, wv, yl, ya, ye, yk, yt, yc, yst, yf, yr, ou)) (hL : L < 16) :
    (∃ r : Int32, (∀ q : Int32 → Prop, q r → wpX_operandsFit q ((nI dep), (nI fu), (nI N), (nI L), xF, xV, xC, xs, ph, cr, ec, en, ft, bt, pr, op, a, b, xp, fi, xl, nx, xo, fn, fe, vn, vo, vv, xst, xf, xr, xh, xc, fN, fX, fS, fT, fL, pv) v1 v2 v3) ∧ ((r = 0 ∧ ∀ post : Int32 → SY → Prop, post 0 ((nI dep), (nI fu), (nI N), (cb_i L st), (nI L), xV, xF, xC, ys, yft, bt, res, yer, ypl, pr, rn, hs, gv, gt, op, a, b, pa, fi, nx, yp, wn, wu, gn, ge, wv, yl, ya, ye, yk, yt, yc, yst, yf, yr, ou) → wpY_open post ((nI dep), (nI fu), (nI N), (cb_i L st), (nI L), xV, xF, xC, ys, yft, bt, res, yer, ypl, pr, rn, hs, gv, gt, op, a, b, pa, fi, nx, yp, wn, wu, gn, ge, wv, yl, ya, ye, yk, yt, yc, yst, yf, yr, ou) v1 v2 v3) ∨ (r = 1 ∧ (∃ o, o < 20 ∧ v1 = nI o ∧ (o = 10 → ∃ p q, v2 = nI p ∧ v3 = nI q ∧ q ≤ 3 ∧ p + q ≤ 8) ∧ (o = 9 → cb_sc L st oc pc a b v2)) ∧ ∀ post : Int32 → SY → Prop, wY_open_89 post v1 v2 v3 (nI dep) (nI fu) (nI N) (cb_i L st) (nI L) xV xF xC ys yft bt res yer ypl pr rn hs gv gt op a b pa fi nx yp wn wu gn ge wv yl ya ye yk yt yc yst yf yr ou → wpY_open post ((nI dep), (nI fu), (nI N), (cb_i L st), (nI L), xV, xF, xC, ys, yft, bt, res, yer, ypl, pr, rn, hs, gv, gt, op, a, b, pa, fi, nx, yp, wn, wu, gn, ge, wv, yl, ya, ye, yk, yt, yc, yst, yf, yr, ou) v1 v2 v3))) := by
  have Y1 : ∀ post : Int32 → SY → Prop, ((v1 < 0 → (post 0 ((nI dep), (nI fu), (nI N), (cb_i L st), (nI L), xV, xF, xC, ys, yft, bt, res, yer, ypl, pr, rn, hs, gv, gt, op, a, b, pa, fi, nx, yp, wn, wu, gn, ge, wv, yl, ya, ye, yk, yt, yc, yst, yf, yr, ou))) ∧ (¬ v1 < 0 → (((v1 ≤ 19 → (((v1 = 8 → (((v2 < 0 → (post 0 ((nI dep), (nI fu), (nI N), (cb_i L st), (nI L), xV, xF, xC, ys, yft, bt, res, yer, ypl, pr, rn, hs, gv, gt, op, a, b, pa, fi, nx, yp, wn, wu, gn, ge, wv, yl, ya, ye, yk, yt, yc, yst, yf, yr, ou))) ∧ (¬ v2 < 0 → (((7 < v2 → (post 0 ((nI dep), (nI fu), (nI N), (cb_i L st), (nI L), xV, xF, xC, ys, yft, bt, res, yer, ypl, pr, rn, hs, gv, gt, op, a, b, pa, fi, nx, yp, wn, wu, gn, ge, wv, yl, ya, ye, yk, yt, yc, yst, yf, yr, ou))) ∧ (¬ 7 < v2 → (wY_open_44 post v1 v2 v3 (nI dep) (nI fu) (nI N) (cb_i L st) (nI L) xV xF xC ys yft bt res yer ypl pr rn hs gv gt op a b pa fi nx yp wn wu gn ge wv yl ya ye yk yt yc yst yf yr ou)))))))) ∧ (¬ v1 = 8 → (wY_open_44 post v1 v2 v3 (nI dep) (nI fu) (nI N) (cb_i L st) (nI L) xV xF xC ys yft bt res yer ypl pr rn hs gv gt op a b pa fi nx yp wn wu gn ge wv yl ya ye yk yt yc yst yf yr ou))))) ∧ (¬ v1 ≤ 19 → (post 0 ((nI dep), (nI fu), (nI N), (cb_i L st), (nI L), xV, xF, xC, ys, yft, bt, res, yer, ypl, pr, rn, hs, gv, gt, op, a, b, pa, fi, nx, yp, wn, wu, gn, ge, wv, yl, ya, ye, yk, yt, yc, yst, yf, yr, ou))))))) → wpY_open post ((nI dep), (nI fu), (nI N), (cb_i L st), (nI L), xV, xF, xC, ys, yft, bt, res, yer, ypl, pr, rn, hs, gv, gt, op, a, b, pa, fi, nx, yp, wn, wu, gn, ge, wv, yl, ya, ye, yk, yt, yc, yst, yf, yr, ou) v1 v2 v3 := by
    intro post h
    unfold wpY_open
    dsimp only
    refine rY _ (br_f (by decide) (br_f (fun z => ?_) h))
    have := (nI_eq (a := L) (b := 16) (by omega) (by omega)).mp z
    omega
  rcases pk_ix v1 (n := 20) (by omega) with h | h | ⟨o, ho, rfl⟩
  · exact ⟨0, fun q hq => br_t (Int32.lt_trans h (by decide)) (br_t h hq), Or.inl ⟨rfl, fun post hp => Y1 post (br_t h hp)⟩⟩
  · have h19 : (19 : Int32) < v1 := Int32.lt_of_lt_of_le (by decide) h
    have h10 : (10 : Int32) < v1 := Int32.lt_trans (by decide) h19
    have h8 : ¬ v1 < 8 := Int32.not_lt.mpr (Int32.le_of_lt (Int32.lt_trans (by decide) h10))
    have h0 : ¬ v1 < 0 := Int32.not_lt.mpr (Int32.le_of_lt (Int32.lt_trans (by decide) h10))
    exact ⟨0, fun q hq => br_f h8 (br_t h10 (br_f h0 (br_t h19 hq))), Or.inl ⟨rfl, fun post hp => Y1 post (br_f h0 (br_f (Int32.not_le.mpr h19) hp))⟩⟩
  · have h0 : ¬ nI o < 0 := nI_pos (by omega)
    have h19 : nI o ≤ 19 := nI_le (b := 19) (by omega) (by omega)
    have h19' : ¬ (19 : Int32) < nI o := nI_nlt (a := 19) (by omega) (by omega)
    have ne : ∀ j, j < 30 → j ≠ o → ¬ nI o = nI j := by
      intro j hj hjo e
      have := (nI_eq (by omega) (by omega)).mp e
      omega
    by_cases c8 : o = 8
    · subst c8
      by_cases k1 : v2 < 0
      · exact ⟨0, fun q hq => br_f (by decide) (br_f (by decide) (br_t rfl (br_t k1 hq))), Or.inl ⟨rfl, fun post hp => Y1 post (br_f h0 (br_t h19 (br_t rfl (br_t k1 hp))))⟩⟩
      · by_cases k2 : 8 ≤ v2
        · have k3 : (7 : Int32) < v2 := Int32.lt_of_lt_of_le (by decide) k2
          exact ⟨0, fun q hq => br_f (by decide) (br_f (by decide) (br_t rfl (br_f k1 (br_t k2 hq)))), Or.inl ⟨rfl, fun post hp => Y1 post (br_f h0 (br_t h19 (br_t rfl (br_f k1 (br_t k3 hp)))))⟩⟩
        · have k3 : ¬ (7 : Int32) < v2 := by
            obtain ⟨j, j1, j2⟩ := nI_of k1
            rw [j2] at k2 ⊢
            intro h
            have a1 := (nI_ltI (a := 7) (b := j) (by omega) j1).mp h
            exact k2 (nI_le (a := 8) (by omega) j1)
          exact ⟨1, fun q hq => br_f (by decide) (br_f (by decide) (br_t rfl (br_f k1 (br_f k2 hq)))), Or.inr ⟨rfl, ⟨8, by omega, rfl, fun h => by omega, fun h => by omega⟩, fun post hp => Y1 post (br_f h0 (br_t h19 (br_t rfl (br_f k1 (br_f k3 (br_f (by decide) (br_f (by decide) hp)))))))⟩⟩
    by_cases c9 : o = 9
    · subst c9
      obtain ⟨z, zX, zY, zz⟩ := bd_scope (dep := dep) (fu := fu) (xF := xF) (xV := xV) (xC := xC) (xs := xs) (ph := ph) (cr := cr) (ec := ec) (en := en) (ft := ft) (bt := bt) (pr := pr) (fn := fn) (fe := fe) (vn := vn) (vo := vo) (vv := vv) (xst := xst) (xf := xf) (xr := xr) (xh := xh) (xc := xc) (fN := fN) (fX := fX) (fS := fS) (fT := fT) (fL := fL) (pv := pv) (ys := ys) (yft := yft) (res := res) (yer := yer) (ypl := ypl) (rn := rn) (hs := hs) (gv := gv) (gt := gt) (wn := wn) (wu := wu) (gn := gn) (ge := ge) (wv := wv) (yl := yl) (ya := ya) (ye := ye) (yk := yk) (yt := yt) (yc := yc) (yst := yst) (yf := yf) (yr := yr) (ou := ou) hG v2
      rcases zz with ⟨rfl, z1⟩ | ⟨rfl, z1⟩
      · exact ⟨0, fun q hq => br_f (by decide) (br_f (by decide) (br_f (by decide) (br_t rfl (zX _ ⟨rfl, hq⟩)))), Or.inl ⟨rfl, fun post hp => Y1 post (br_f h0 (br_t h19 (br_f (by decide) (br_t rfl (zY _ (br_t rfl hp))))))⟩⟩
      · exact ⟨1, fun q hq => br_f (by decide) (br_f (by decide) (br_f (by decide) (br_t rfl (zX _ ⟨rfl, hq⟩)))), Or.inr ⟨rfl, ⟨9, by omega, rfl, fun h => by omega, fun _ => z1⟩, fun post hp => Y1 post (br_f h0 (br_t h19 (br_f (by decide) (br_t rfl (zY _ (br_f (by decide) (br_f (by decide) hp)))))))⟩⟩
    by_cases c10 : o = 10
    · subst c10
      have X1 : ∀ q : Int32 → Prop, ((v3 < 0 → (q 0)) ∧ (¬ v3 < 0 → (((3 < v3 → (q 0)) ∧ (¬ 3 < v3 → (((v2 < 0 → (q 0)) ∧ (¬ v2 < 0 → ((((8 - v3) < v2 → (q 0)) ∧ (¬ (8 - v3) < v2 → (q 1))))))))))))  → wpX_operandsFit q ((nI dep), (nI fu), (nI N), (nI L), xF, xV, xC, xs, ph, cr, ec, en, ft, bt, pr, op, a, b, xp, fi, xl, nx, xo, fn, fe, vn, vo, vv, xst, xf, xr, xh, xc, fN, fX, fS, fT, fL, pv) (nI 10) v2 v3 := fun q h => br_f (by decide) (br_f (by decide) (br_f (by decide) (br_f (by decide) (br_t rfl h))))
      have Y2 : ∀ post : Int32 → SY → Prop, ((v3 < 0 → (post 0 ((nI dep), (nI fu), (nI N), (cb_i L st), (nI L), xV, xF, xC, ys, yft, bt, res, yer, ypl, pr, rn, hs, gv, gt, op, a, b, pa, fi, nx, yp, wn, wu, gn, ge, wv, yl, ya, ye, yk, yt, yc, yst, yf, yr, ou))) ∧ (¬ v3 < 0 → (((3 < v3 → (post 0 ((nI dep), (nI fu), (nI N), (cb_i L st), (nI L), xV, xF, xC, ys, yft, bt, res, yer, ypl, pr, rn, hs, gv, gt, op, a, b, pa, fi, nx, yp, wn, wu, gn, ge, wv, yl, ya, ye, yk, yt, yc, yst, yf, yr, ou))) ∧ (¬ 3 < v3 → (((v2 < 0 → (post 0 ((nI dep), (nI fu), (nI N), (cb_i L st), (nI L), xV, xF, xC, ys, yft, bt, res, yer, ypl, pr, rn, hs, gv, gt, op, a, b, pa, fi, nx, yp, wn, wu, gn, ge, wv, yl, ya, ye, yk, yt, yc, yst, yf, yr, ou))) ∧ (¬ v2 < 0 → (((v2 ≤ (8 - v3) → (wY_open_89 post (nI 10) v2 v3 (nI dep) (nI fu) (nI N) (cb_i L st) (nI L) xV xF xC ys yft bt res yer ypl pr rn hs gv gt op a b pa fi nx yp wn wu gn ge wv yl ya ye yk yt yc yst yf yr ou)) ∧ (¬ v2 ≤ (8 - v3) → (post 0 ((nI dep), (nI fu), (nI N), (cb_i L st), (nI L), xV, xF, xC, ys, yft, bt, res, yer, ypl, pr, rn, hs, gv, gt, op, a, b, pa, fi, nx, yp, wn, wu, gn, ge, wv, yl, ya, ye, yk, yt, yc, yst, yf, yr, ou))))))))))))) → wpY_open post ((nI dep), (nI fu), (nI N), (cb_i L st), (nI L), xV, xF, xC, ys, yft, bt, res, yer, ypl, pr, rn, hs, gv, gt, op, a, b, pa, fi, nx, yp, wn, wu, gn, ge, wv, yl, ya, ye, yk, yt, yc, yst, yf, yr, ou) (nI 10) v2 v3 := fun post h => Y1 post (br_f h0 (br_t h19 (br_f (by decide) (br_f (by decide) (br_t rfl h)))))
      by_cases k1 : v3 < 0
      · exact ⟨0, fun q hq => X1 q (br_t k1 hq), Or.inl ⟨rfl, fun post hp => Y2 post (br_t k1 hp)⟩⟩
      · by_cases k2 : 3 < v3
        · exact ⟨0, fun q hq => X1 q (br_f k1 (br_t k2 hq)), Or.inl ⟨rfl, fun post hp => Y2 post (br_f k1 (br_t k2 hp))⟩⟩
        · by_cases k3 : v2 < 0
          · exact ⟨0, fun q hq => X1 q (br_f k1 (br_f k2 (br_t k3 hq))), Or.inl ⟨rfl, fun post hp => Y2 post (br_f k1 (br_f k2 (br_t k3 hp)))⟩⟩
          · by_cases k4 : 8 - v3 < v2
            · exact ⟨0, fun q hq => X1 q (br_f k1 (br_f k2 (br_f k3 (br_t k4 hq)))), Or.inl ⟨rfl, fun post hp => Y2 post (br_f k1 (br_f k2 (br_f k3 (br_f (Int32.not_le.mpr k4) hp))))⟩⟩
            · refine ⟨1, fun q hq => X1 q (br_f k1 (br_f k2 (br_f k3 (br_f k4 hq)))), Or.inr ⟨rfl, ⟨10, by omega, rfl, fun _ => ?_, fun h => by omega⟩, fun post hp => Y2 post (br_f k1 (br_f k2 (br_f k3 (br_t (Int32.not_lt.mp k4) hp))))⟩⟩
              obtain ⟨q, q1, q2⟩ := nI_of k1
              obtain ⟨p, p1, p2⟩ := nI_of k3
              have q3 : q ≤ 3 := by
                rw [q2] at k2
                rcases Nat.lt_or_ge 3 q with h | h
                · exact absurd (nI_lt (a := 3) h q1) k2
                · exact h
              refine ⟨p, q, p2, q2, q3, ?_⟩
              have e8 : (8 : Int32) - nI q = nI (8 - q) := by
                show nI 8 - nI q = _
                exact pk_sub (by omega)
              rw [p2, q2, e8] at k4
              rcases Nat.lt_or_ge (8 - q) p with h | h
              · exact absurd (nI_lt h p1) k4
              · omega
    · have X1 : ∀ q : Int32 → Prop, q 1 → wpX_operandsFit q ((nI dep), (nI fu), (nI N), (nI L), xF, xV, xC, xs, ph, cr, ec, en, ft, bt, pr, op, a, b, xp, fi, xl, nx, xo, fn, fe, vn, vo, vv, xst, xf, xr, xh, xc, fN, fX, fS, fT, fL, pv) (nI o) v2 v3 := by
        intro q hq
        rcases Nat.lt_or_ge o 8 with h | h
        · exact br_t (nI_lt (b := 8) h (by omega)) (br_f h0 (br_f h19' hq))
        · exact br_f (nI_nlt (b := 8) h (by omega)) (br_t (nI_lt (a := 10) (by omega) (by omega)) (br_f h0 (br_f h19' hq)))
      exact ⟨1, X1, Or.inr ⟨rfl, ⟨o, ho, rfl, fun h => absurd h c10, fun h => absurd h c9⟩, fun post hp => Y1 post (br_f h0 (br_t h19 (br_f (ne 8 (by omega) (by omega)) (br_f (ne 9 (by omega) (by omega)) (br_f (ne 10 (by omega) (by omega)) hp)))))⟩⟩
theorem i_vc_close {k : Nat} {u : SX} {v : SY} (I : i_Rel k u v) (hk : k + 4 ≤ 2050) : wpX_close (fun r u' => wpY_close (fun r' v' => r' = r ∧ i_Rel (k + 4) u' v') v) u := by
  have J := i_up I
  obtain ⟨dep, fu, L, N, st, oc, pc, E, lv, kd, SC, xF, xV, xC, xs, ph, cr, ec, en, ft, bt, pr, op, a, b, xp, fi, xl, nx, xo, fn, fe, vn, vo, vv, xst, xf, xr, xh, xc, fN, fX, fS, fT, fL, pv, ys, yft, res, yer, ypl, rn, hs, gv, gt, pa, yp, wn, wu, gn, ge, wv, yl, ya, ye, yk, yt, yc, yst, yf, yr, ou, rfl, rfl, h1, hG, h3⟩ := I
  rcases Nat.eq_zero_or_pos L with h0 | h0
  · subst h0
    exact br_t rfl (br_t (show cb_i 0 st < 0 from (by decide : (-1 : Int32) < 0)) ⟨rfl, J⟩)
  · obtain ⟨l, rfl⟩ : ∃ l, L = l + 1 := ⟨L - 1, by omega⟩
    have hG' := hG
    obtain ⟨⟨g1, g2, g3, g4⟩, g5, g6, g7, g8⟩ := hG
    obtain ⟨e1, e2, e3, e4, e5, e6, e7, e8⟩ := g5 l (by omega)
    have hinj : ∀ i, i + 1 < l + 1 → st i ≠ st l := fun i hi e => by have := e6 i (by omega); omega
    have hxp := (g7 (st l) e1).2.1 hinj
    have hyp := (g7 (st l) e1).1
    have nd := g6 (st l) e1
    have hop := nd.1.2.1
    have hpn := nd.1.2.2.2
    have hmx : ct_mx (oc (st l)) ≤ 96 := by unfold ct_mx; split <;> (try split) <;> (try split) <;> (try split) <;> (try split) <;> omega
    have hmn : ct_mn (oc (st l)) ≤ 96 := by unfold ct_mn; split <;> (try split) <;> omega
    have hci : cb_i (l + 1) st = nI (st l) := by unfold cb_i; rw [if_neg (by omega), Nat.add_sub_cancel]
    have el := nc_ (n := l) (by omega)
    have em := nc_ (n := st l) (by omega)
    have wm := vi_ (n := st l) (N := 96) (by omega) (by omega)
    rw [hci] at J ⊢
    refine br_f (nI_ne0 (by omega) (by omega)) ?_
    rw [nI_pred, el, e2]
    refine ⟨vi_ (by omega) (by omega), nm_e ⟨wm, wm, ?_⟩⟩
    rw [em, hop, hxp]
    refine x_need e4 (pk_le (ct_mn (oc (st l))) (pc (st l)) (fun hle => ?_) (fun hlt => ?_))
    · have Yc : ∀ (post : Int32 → SY → Prop), post 1 ((nI dep), (nI fu), (nI N), (cb_i l st), (nI l), xV, xF, xC, ys, yft, bt, res, yer, ypl, pr, rn, hs, gv, gt, op, a, b, pa, fi, nx, yp, wn, wu, gn, ge, wv, yl, ya, ye, yk, yt, yc, yst, yf, yr, ou) → wpY_close post ((nI dep), (nI fu), (nI N), (nI (st l)), (nI (l + 1)), xV, xF, xC, ys, yft, bt, res, yer, ypl, pr, rn, hs, gv, gt, op, a, b, pa, fi, nx, yp, wn, wu, gn, ge, wv, yl, ya, ye, yk, yt, yc, yst, yf, yr, ou) := by
        intro post KK
        refine br_f (nI_pos (by omega)) ⟨wm, wm, ?_⟩
        rw [em, hop, hyp]
        refine y_few e4 (pk_le (ct_mn (oc (st l))) (pc (st l)) (fun _ => ⟨wm, nm_r (e' := cb_i l st) e3 (nm_r (nI_pred l) KK)⟩) (fun h => by omega))
      refine nm_r (e' := nI l) rfl ?_
      rcases Nat.eq_zero_or_pos l with hl | hl
      · subst hl
        refine x_cnt0 ?_
        refine Yc _ ⟨rfl, ?_⟩
        exact ci_mk (k := k + 4) (L := 0) (st := st) (N := N) ⟨h1, cb_close (xp' := xp) hG' rfl hle rfl, h3⟩
      · obtain ⟨j, rfl⟩ : ∃ j, l = j + 1 := ⟨l - 1, by omega⟩
        obtain ⟨f1, f2, f3, f4, f5, f6, f7, f8⟩ := g5 j (by omega)
        obtain ⟨t1, t2, t3⟩ := f7 (by omega)
        refine x_cnt1 (m := st j) (p := pc (st j) - 1) (by omega) f2 (by omega) t3 ?_
        refine Yc _ ⟨rfl, ?_⟩
        rw [show pc (st j) - 1 + 1 = pc (st j) by omega]
        exact ci_mk (k := k + 4) (L := j + 1) (st := st) (N := N) ⟨h1, cb_close (xp' := upd xp (st j) (nI (pc (st j)))) hG' rfl hle (by rw [if_neg (by omega), Nat.add_sub_cancel]), h3⟩
    · refine br_f (nI_pos (by omega)) ⟨wm, wm, ?_⟩
      rw [em, hop, hyp]
      exact y_few e4 (pk_le (ct_mn (oc (st l))) (pc (st l)) (fun h => by omega) (fun _ => ⟨rfl, J⟩))
end
