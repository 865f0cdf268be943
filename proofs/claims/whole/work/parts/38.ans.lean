section
variable {dep fu L N : Nat} {st oc pc E lv : Nat → Nat} {kd : Nat → Nat → Nat} {SC : Nat → Int32 → Prop} {xF xV xC xs ph : Int32} {cr : Int64} {ec en ft bt pr : Int32} {op a b xp fi xl nx xo fn fe vn vo : Nat → Int32} {vv : Nat → Int64} {xst xf xr xh xc fN fX fS fT : Nat → Int32} {fL pv : Nat → Int64} {ys yft res yer ypl rn hs : Int32} {gv gt : Int64} {pa yp wn wu gn ge : Nat → Int32} {wv : Nat → Int64} {yl ya ye : Nat → Int32} {yk : Nat → Int64} {yt yc yst yf yr : Nat → Int32} {ou : Nat → Int64}
theorem ci_ans {k : Nat} {u : SX} {v : SY} (I : i_Rel k u v) {RR : Prop} (J : RR) : (wpX_kind (fun r => wpY_kind (fun r' => r' = r ∧ RR) v) u) ∧ (wpX_value (fun r => wpY_value (fun r' => r' = r ∧ RR) v) u) ∧ (wpX_error (fun r => wpY_error (fun r' => r' = r ∧ RR) v) u) ∧ (wpX_place (fun r => wpY_place (fun r' => r' = r ∧ RR) v) u) ∧ (wpX_beats (fun r => wpY_beats (fun r' => r' = r ∧ RR) v) u) ∧ (wpX_printed (fun r => wpY_printed (fun r' => r' = r ∧ RR) v) u) ∧ (∀ v1 : Int32, wpX_made (fun r => wpY_made (fun r' => r' = r ∧ RR) v v1) u v1) ∧ (∀ v1 : Int32, wpX_output (fun r => wpY_output (fun r' => r' = r ∧ RR) v v1) u v1) := by
  obtain ⟨dep, fu, L, N, st, oc, pc, E, lv, kd, SC, xF, xV, xC, xs, ph, cr, ec, en, ft, bt, pr, op, a, b, xp, fi, xl, nx, xo, fn, fe, vn, vo, vv, xst, xf, xr, xh, xc, fN, fX, fS, fT, fL, pv, ys, yft, res, yer, ypl, rn, hs, gv, gt, pa, yp, wn, wu, gn, ge, wv, yl, ya, ye, yk, yt, yc, yst, yf, yr, ou, rfl, rfl, h1, hG, ⟨p, p1, rfl, rfl, p4, p5, p6⟩, w, w1, rfl, w3⟩ := I
  refine ⟨?_, ?_, ?_, ?_, ?_, ?_, fun v1 => ?_, fun v1 => ?_⟩
  · rcases Nat.eq_zero_or_pos p with h0 | h0
    · subst h0
      refine br_t rfl ?_
      rcases cv_cases (by omega) (p4 rfl) with ⟨n, hn, rfl, rfl⟩ | ⟨rfl, rfl⟩ | ⟨f, hf, rfl, rfl⟩ | ⟨c, hc, rfl, rfl⟩
      · refine x_kind (by omega) ?_
        rw [show (n + 4294967296) / 4294967296 = 1 by omega]
        exact br_t rfl (br_f (fun h => absurd ((vo_le (c := 4294967296) (by omega) (by omega)).mp h) (by omega)) ⟨rfl, J⟩)
      · refine x_kind (by omega) ?_
        exact br_t rfl (br_t ((vo_le (c := 4294967296) (by omega) (by omega)).mpr (Nat.le_refl _)) (br_t rfl ⟨rfl, J⟩))
      · refine x_kind (by omega) ?_
        rw [show (8589934592 + f) / 4294967296 = 2 by omega]
        exact br_t rfl (br_t ((vo_le (c := 4294967296) (by omega) (by omega)).mpr (by omega)) (br_f (fun h => absurd ((vo_eq (y := 4294967296) (by omega) (by omega)).mp h) (by omega)) (br_f (fun h => absurd ((vo_le (c := 12884901888) (by omega) (by omega)).mp h) (by omega)) ⟨rfl, J⟩)))
      · refine x_kind (by omega) ?_
        rw [show (12884901888 + c + 1) / 4294967296 = 3 by omega]
        exact br_t rfl (br_t ((vo_le (c := 4294967296) (by omega) (by omega)).mpr (by omega)) (br_f (fun h => absurd ((vo_eq (y := 4294967296) (by omega) (by omega)).mp h) (by omega)) (br_t ((vo_le (c := 12884901888) (by omega) (by omega)).mpr (by omega)) ⟨rfl, J⟩)))
    · have hn := nI_ne0 h0 (show p < 2147483648 by omega)
      exact br_f hn (br_f hn ⟨rfl, J⟩)
  · rcases Nat.eq_zero_or_pos p with h0 | h0
    · subst h0
      refine br_t rfl ?_
      rcases xy_num (by omega) (by omega) (p4 rfl) with ⟨n, c1, rfl, rfl, c4, c5⟩ | ⟨c4, c5⟩
      · refine c4 _ (br_f (by decide) ?_)
        refine br_t rfl (br_f (fun h => absurd ((vo_le (c := 4294967296) (by omega) (by omega)).mp h) (by omega)) ⟨?_, J⟩)
        rw [vo_i1, lN_i]
      · refine c4 _ (br_t rfl ?_)
        have h5 := c5 (fun r => r = 0) ((nI dep), (nI fu), (nI N), (cb_i L st), (nI L), xV, xF, xC, ys, yft, bt, (nI 0), yer, ypl, (nI w), rn, hs, gv, gt, op, a, b, pa, fi, nx, yp, wn, wu, gn, ge, wv, yl, ya, ye, yk, yt, yc, yst, yf, yr, ou) rfl
        refine br_t rfl (br_t ?_ ⟨rfl, J⟩)
        by_cases h6 : 4294967296 ≤ gv
        · exact h6
        · exact absurd (h5.2 h6) (by decide)
    · have hn := nI_ne0 h0 (show p < 2147483648 by omega)
      exact br_f hn (br_f hn ⟨rfl, J⟩)
  · by_cases h0 : p = 1
    · subst h0
      exact br_t rfl ⟨(p5 rfl).1, J⟩
    · exact br_f (fun h => h0 ((nI_eq (a := p) (b := 1) (by omega) (by omega)).mp h)) ⟨(p6 h0).1, J⟩
  · by_cases h0 : p = 1
    · subst h0
      exact br_t rfl ⟨(p5 rfl).2, J⟩
    · exact br_f (fun h => h0 ((nI_eq (a := p) (b := 1) (by omega) (by omega)).mp h)) ⟨(p6 h0).2, J⟩
  · exact ⟨rfl, J⟩
  · exact ⟨rfl, J⟩
  · rcases pk_ix v1 (n := 3) (by omega) with h | h | ⟨j, hj, rfl⟩
    · exact br_t h (br_f (fun z => by subst z; exact absurd h (by decide)) (br_f (fun z => by subst z; exact absurd h (by decide)) (br_f (fun z => by subst z; exact absurd h (by decide)) ⟨rfl, J⟩)))
    · have h2 : (2 : Int32) < v1 := Int32.lt_of_lt_of_le (by decide) h
      exact br_f (Int32.not_lt.mpr (Int32.le_of_lt (Int32.lt_trans (by decide) h2))) (br_t h2 (br_f (fun z => by subst z; exact absurd h2 (by decide)) (br_f (fun z => by subst z; exact absurd h2 (by decide)) (br_f (fun z => by subst z; exact absurd h2 (by decide)) ⟨rfl, J⟩))))
    · have hc : j = 0 ∨ j = 1 ∨ j = 2 := by omega
      rcases hc with rfl | rfl | rfl
      · exact br_f (by decide) (br_f (by decide) (br_t rfl (br_t rfl ⟨rfl, J⟩)))
      · exact br_f (by decide) (br_f (by decide) (br_f (by decide) (br_t rfl (br_f (by decide) (br_t rfl ⟨rfl, J⟩)))))
      · exact br_f (by decide) (br_f (by decide) (br_f (by decide) (br_f (by decide) (br_t rfl (br_f (by decide) (br_f (by decide) (br_t rfl ⟨rfl, J⟩)))))))
  · by_cases h0 : v1 < 0
    · exact br_t h0 (br_t h0 ⟨rfl, J⟩)
    · obtain ⟨j, j1, rfl⟩ := nI_of h0
      refine br_f h0 ?_
      rcases Nat.lt_or_ge j w with hw | hw
      · have hx : ¬ nI w ≤ nI j := nI_ge hw (by omega)
        refine br_f hx ?_
        rcases Nat.lt_or_ge j 24 with h24 | h24
        · have e := nc_ (n := j) (by omega)
          have w24 := vi_ (n := j) (N := 24) h24 (by omega)
          refine br_t (nI_lt (b := 24) h24 (by omega)) ⟨w24, nm_r (e' := pv j) (by rw [e]) ?_⟩
          have Yc : ∀ (post : Int64 → Prop), ((4294967296 ≤ ou j → (((ou j = 4294967296 → (post 4294967296)) ∧ (¬ ou j = 4294967296 → (((12884901888 ≤ ou j → (post 4294967298)) ∧ (¬ 12884901888 ≤ ou j → (post 4294967297)))))))) ∧ (¬ 4294967296 ≤ ou j → (post (ou j).toInt32.toInt64))) → wpY_output post ((nI dep), (nI fu), (nI N), (cb_i L st), (nI L), xV, xF, xC, ys, yft, bt, (nI p), yer, ypl, (nI w), rn, hs, gv, gt, op, a, b, pa, fi, nx, yp, wn, wu, gn, ge, wv, yl, ya, ye, yk, yt, yc, yst, yf, yr, ou) (nI j) := by
            intro post h
            exact br_f h0 (br_f (nI_nlt (a := 23) (by omega) (by omega)) (br_t (nI_lt hw (by omega)) ⟨w24, nm_r (e' := ou j) (by rw [e]) h⟩))
          have hv := w3 j h24 hw
          generalize hx1 : pv j = x at hv
          generalize hy1 : ou j = y at hv Yc
          rcases cv_cases (by omega) hv with ⟨n, hn, rfl, rfl⟩ | ⟨rfl, rfl⟩ | ⟨f, hf, rfl, rfl⟩ | ⟨c, hc, rfl, rfl⟩
          · refine x_kind (by omega) ?_
            rw [show (n + 4294967296) / 4294967296 = 1 by omega]
            refine br_f (by decide) (br_f (by decide) (br_f (by decide) (br_t rfl (Yc _ (br_f (fun h => absurd ((vo_le (c := 4294967296) (by omega) (by omega)).mp h) (by omega)) ⟨?_, J⟩)))))
            rw [vo_i1, lN_i]
          · refine x_kind (by omega) ?_
            exact br_f (by decide) (br_f (by decide) (br_t rfl (Yc _ (br_t ((vo_le (c := 4294967296) (by omega) (by omega)).mpr (Nat.le_refl _)) (br_t rfl ⟨rfl, J⟩)))))
          · refine x_kind (by omega) ?_
            rw [show (8589934592 + f) / 4294967296 = 2 by omega]
            exact br_f (by decide) (br_f (by decide) (br_f (by decide) (br_f (by decide) (br_t rfl (Yc _ (br_t ((vo_le (c := 4294967296) (by omega) (by omega)).mpr (by omega)) (br_f (fun h => absurd ((vo_eq (y := 4294967296) (by omega) (by omega)).mp h) (by omega)) (br_f (fun h => absurd ((vo_le (c := 12884901888) (by omega) (by omega)).mp h) (by omega)) ⟨rfl, J⟩))))))))
          · refine x_kind (by omega) ?_
            rw [show (12884901888 + c + 1) / 4294967296 = 3 by omega]
            exact br_f (by decide) (br_f (by decide) (br_f (by decide) (br_f (by decide) (br_f (by decide) (br_t rfl (Yc _ (br_t ((vo_le (c := 4294967296) (by omega) (by omega)).mpr (by omega)) (br_f (fun h => absurd ((vo_eq (y := 4294967296) (by omega) (by omega)).mp h) (by omega)) (br_t ((vo_le (c := 12884901888) (by omega) (by omega)).mpr (by omega)) ⟨rfl, J⟩)))))))))
        · exact br_f (nI_nlt (b := 24) h24 (by omega)) (br_f h0 (br_t (nI_lt (a := 23) (by omega) (by omega)) ⟨rfl, J⟩))
      · refine br_t (nI_le hw (by omega)) ?_
        refine br_f h0 ?_
        by_cases h23 : (23 : Int32) < nI j
        · exact br_t h23 ⟨rfl, J⟩
        · exact br_f h23 (br_f (nI_nlt hw (by omega)) ⟨rfl, J⟩)
end
