section
variable {op a b fi nx pa : Nat → Int32} {N : Nat} {oc pc E lv : Nat → Nat} {kd : Nat → Nat → Nat} {SC : Nat → Int32 → Prop}
variable {F C V : Nat} {D : Nat → Int32 → Prop} {K T : Nat → Nat → Nat} {fN fX fS fT : Nat → Int32} {fL : Nat → Int64} {yl ya ye : Nat → Int32} {yk : Nat → Int64} {P H : Nat → Nat} {dep : Nat} {xh xc yt yc fn fe gn ge vn vo : Nat → Int32} {vv : Nat → Int64} {wn wu : Nat → Int32} {wv : Nat → Int64} {xst xf xr yst yf yr : Nat → Int32} {Q : Nat → Nat} {k s h : Nat}
variable {fu : Nat} {xN xL : Int32} {xp xl xo : Nat → Int32} {yN yi yo : Int32} {yp : Nat → Int32}
variable {ph ec en ft : Int32} {cr gv gt : Int64} {q w φ : Nat} {pv ou : Nat → Int64} {hs : Int32}
theorem step_A {u : SX} {v : SY} (ht : (ct_all op a b fi nx pa N oc pc E lv kd SC)) (hyp : ∀ n, n < N → xp n = nI (pc n) ∧ yp n = nI (pc n)) (hA : cr_A op a b fi nx pa N oc pc E lv kd SC dep fu xN xL xp xl xo yN yi yo yp φ u v) : ∃ u2 v2 kx, xs_ (kx + 1) u u2 ∧ ys_ v v2 ∧ cr_T op a b fi nx pa N oc pc E lv kd SC dep fu xN xL xp xl xo yN yi yo yp φ (kx + 1) u2 v2 := by
  obtain ⟨F, C, V, D, K, T, P, H, Q, k, s, h, q, w, ec, en, ft, cr, gv, gt, fn, fe, vn, vo, vv, xst, xf, xr, xh, xc, fN, fX, fS, fT, fL, pv, wn, wu, gn, ge, wv, yl, ya, ye, yk, yt, yc, yst, yf, yr, ou, rfl, rfl, h1, ⟨⟨b1, b2, b7⟩, b3, b4, b5, b6⟩, hk, hv⟩ := hA
  have h7 := (cc_s h1).2
  rcases Nat.eq_zero_or_pos h with hz | hz
  · subst hz
    obtain rfl : s = 0 := by
      rcases Nat.eq_zero_or_pos s with hz | hz
      · exact hz
      · have := b7 hz; omega
    have hK0 := h1.2.1 0
    have hφ2 : P 0 ≤ φ := by have h3 := sm_le (f := P) 7 h7; have h4 := hk.1.2.2.1; omega
    refine ⟨_, _, 0, xs_d (fun post KK => x_delM b3 KK), ys_d (fun post KK => y_del0 h7 (by rw [b4, hK0]; rfl) KK), cr_mkE (by omega) h1.1.1 h1.1.2.1 (by have := hk.1.2.2.2; omega) (by decide) ⟨0, by omega, rfl, rfl, fun _ => hv, fun h => by omega, fun _ => ⟨rfl, rfl⟩⟩ hk.2⟩
  · obtain ⟨j, rfl⟩ : ∃ j, h = j + 1 := ⟨h - 1, by omega⟩
    obtain ⟨h2, hW⟩ := cc_dn h1
    obtain ⟨n, i, e, ⟨⟨g1, g2, g3, g4⟩, ⟨g5, g6, g7⟩, ⟨g8, g9, g10⟩, g11, g12, ⟨g13, g14, g15⟩⟩, hn, hT⟩ := hW
    have B : ∃ u2 v2 kx, xs_ (kx + 1) ((nI dep), (nI fu), xN, xL, (nI F), (nI V), (nI C), (nI s), (-2), cr, ec, en, ft, (nI q), (nI w), op, a, b, xp, fi, xl, nx, xo, fn, fe, vn, vo, vv, xst, xf, xr, xh, xc, fN, fX, fS, fT, fL, pv) u2 ∧ (∀ post : SY → Prop, post v2 → wpY_deliver post ((nI dep), (nI fu), yN, yi, yo, (nI V), (nI F), (nI C), (nI s), ft, (nI q), 0, 0, (-1), (nI w), 1, 0, gv, gt, op, a, b, pa, fi, nx, yp, wn, wu, gn, ge, wv, yl, ya, ye, yk, yt, yc, yst, yf, yr, ou) gt) ∧ cr_T op a b fi nx pa N oc pc E lv kd SC dep fu xN xL xp xl xo yN yi yo yp φ (kx + 1) u2 v2 := by
      by_cases c5 : oc n = 5
      · rcases Nat.eq_zero_or_pos i with h0 | h0
        · exact sA_if0 ht hyp h2 g1 g2 g3 g4 g5 g6 g7 g8 g9 g10 g11 g12 g13 g14 g15 hn hT b1 b2 b3 b4 b5 b6 hk hv c5 h0
        · exact sA_if1 ht hyp h2 g1 g2 g3 g4 g5 g6 g7 g8 g9 g10 g11 g12 g13 g14 g15 hn hT b1 b2 b3 b4 b5 b6 hk hv c5 h0
      by_cases c6 : oc n = 6
      · by_cases hlt : i + 1 < pc n
        · exact sA_seqn ht hyp h2 g1 g2 g3 g4 g5 g6 g7 g8 g9 g10 g11 g12 g13 g14 g15 hn hT b1 b2 b3 b4 b5 b6 hk hv (Or.inl c6) hlt
        · exact sA_seql ht hyp h2 g1 g2 g3 g4 g5 g6 g7 g8 g9 g10 g11 g12 g13 g14 g15 hn hT b1 b2 b3 b4 b5 b6 hk hv c6 (by omega)
      by_cases c7 : oc n = 7
      · exact sA_while ht hyp h2 g1 g2 g3 g4 g5 g6 g7 g8 g9 g10 g11 g12 g13 g14 g15 hn hT b1 b2 b3 b4 b5 b6 hk hv c7
      by_cases c8 : oc n = 8
      · rcases Nat.eq_zero_or_pos i with h0 | h0
        · exact sA_loc0 ht hyp h2 g1 g2 g3 g4 g5 g6 g7 g8 g9 g10 g11 g12 g13 g14 g15 hn hT b1 b2 b3 b4 b5 b6 hk hv c8 h0
        · exact sA_loc1 ht hyp h2 g1 g2 g3 g4 g5 g6 g7 g8 g9 g10 g11 g12 g13 g14 g15 hn hT b1 b2 b3 b4 b5 b6 hk hv c8 h0
      by_cases c10 : oc n = 10
      · by_cases hlt : i + 1 < pc n
        · exact sA_seqn ht hyp h2 g1 g2 g3 g4 g5 g6 g7 g8 g9 g10 g11 g12 g13 g14 g15 hn hT b1 b2 b3 b4 b5 b6 hk hv (Or.inr c10) hlt
        · exact sA_fun ht hyp h2 g1 g2 g3 g4 g5 g6 g7 g8 g9 g10 g11 g12 g13 g14 g15 hn hT b1 b2 b3 b4 b5 b6 hk hv c10 (by omega)
      by_cases c3 : oc n < 4
      · exact sA_arith ht hyp h2 g1 g2 g3 g4 g5 g6 g7 g8 g9 g10 g11 g12 g13 g14 g15 hn hT b1 b2 b3 b4 b5 b6 hk hv c3
      by_cases c4 : oc n = 4
      · exact sA_same ht hyp h2 g1 g2 g3 g4 g5 g6 g7 g8 g9 g10 g11 g12 g13 g14 g15 hn hT b1 b2 b3 b4 b5 b6 hk hv c4
      by_cases c9 : oc n = 9
      · exact sA_set ht hyp h2 g1 g2 g3 g4 g5 g6 g7 g8 g9 g10 g11 g12 g13 g14 g15 hn hT b1 b2 b3 b4 b5 b6 hk hv c9
      by_cases c11 : oc n = 11
      · by_cases hlt : i + 1 < pc n
        · exact sA_Dn ht hyp h2 g1 g2 g3 g4 g5 g6 g7 g8 g9 g10 g11 g12 g13 g14 g15 hn hT b1 b2 b3 b4 b5 b6 hk hv (Or.inr (Or.inl (by omega))) hlt
        · exact sA_call ht hyp h2 g1 g2 g3 g4 g5 g6 g7 g8 g9 g10 g11 g12 g13 g14 g15 hn hT b1 b2 b3 b4 b5 b6 hk hv c11 (by omega)
      by_cases c12 : oc n = 12
      · exact sA_ret ht hyp h2 g1 g2 g3 g4 g5 g6 g7 g8 g9 g10 g11 g12 g13 g14 g15 hn hT b1 b2 b3 b4 b5 b6 hk hv c12
      by_cases c13 : oc n = 13
      · exact sA_err ht hyp h2 g1 g2 g3 g4 g5 g6 g7 g8 g9 g10 g11 g12 g13 g14 g15 hn hT b1 b2 b3 b4 b5 b6 hk hv c13
      by_cases c14 : oc n = 14
      · exact sA_print ht hyp h2 g1 g2 g3 g4 g5 g6 g7 g8 g9 g10 g11 g12 g13 g14 g15 hn hT b1 b2 b3 b4 b5 b6 hk hv c14
      by_cases c15 : oc n = 15
      · exact sA_create ht hyp h2 g1 g2 g3 g4 g5 g6 g7 g8 g9 g10 g11 g12 g13 g14 g15 hn hT b1 b2 b3 b4 b5 b6 hk hv c15
      by_cases c16 : oc n = 16
      · exact sA_res ht hyp h2 g1 g2 g3 g4 g5 g6 g7 g8 g9 g10 g11 g12 g13 g14 g15 hn hT b1 b2 b3 b4 b5 b6 hk hv c16
      by_cases c17 : oc n = 17
      · exact sA_yield ht hyp h2 g1 g2 g3 g4 g5 g6 g7 g8 g9 g10 g11 g12 g13 g14 g15 hn hT b1 b2 b3 b4 b5 b6 hk hv c17
      · exact sA_stat ht hyp h2 g1 g2 g3 g4 g5 g6 g7 g8 g9 g10 g11 g12 g13 g14 g15 hn hT b1 b2 b3 b4 b5 b6 hk hv (by omega)
    obtain ⟨u2, v2, kx, r1, r2, r3⟩ := B
    exact ⟨u2, v2, kx, r1, ys_d r2, r3⟩
def xph_ (u : SX) : Int32 := match u with
  | (xd, xg, xN, xL, xF, xV, xC, xs, ph, cr, ec, en, ft, bt, pr, op, a, b, xp, fi, xl, nx, xo, fn, fe, vn, vo, vv, xst, xf, xr, xh, xc, fN, fX, fS, fT, fL, pv) => ph
/-- the end of both loops -/
theorem end_X {u : SX} {v : SY} {post : Int32 → SX → Prop} {n : Nat} {x : Int32} (hE : cr_E op a b fi nx pa dep fu xN xL xp xl xo yN yi yo yp u v) (K : post (xph_ u) u) : xl_ post (n + 1) x u := by
  obtain ⟨F, C, V, s, q, w, ph, ec, en, ft, res, yer, ypl, hs, cr, gv, gt, fn, fe, vn, vo, vv, xst, xf, xr, xh, xc, fN, fX, fS, fT, fL, pv, wn, wu, gn, ge, wv, yl, ya, ye, yk, yt, yc, yst, yf, yr, ou, rfl, rfl, e1, e2, e3, e4, e5, e6⟩ := hE
  exact br_c (fun _ => K) (fun _ => br_t e4 K)
theorem end_Y {u : SX} {v : SY} {post : Int32 → SY → Prop} {n : Nat} (hE : cr_E op a b fi nx pa dep fu xN xL xp xl xo yN yi yo yp u v) (K : post (xph_ u) v) : yl_ post (n + 1) v := by
  obtain ⟨F, C, V, s, q, w, ph, ec, en, ft, res, yer, ypl, hs, cr, gv, gt, fn, fe, vn, vo, vv, xst, xf, xr, xh, xc, fN, fX, fS, fT, fL, pv, wn, wu, gn, ge, wv, yl, ya, ye, yk, yt, yc, yst, yf, yr, ou, rfl, rfl, e1, e2, e3, e4, ⟨p, p1, p2, p3, _⟩, e6⟩ := hE
  have hr : res = ph := p3.trans p2.symm
  subst hr
  exact br_t rfl K
/-- both loops, to their end -/
theorem run_main (ht : (ct_all op a b fi nx pa N oc pc E lv kd SC)) (hyp : ∀ n, n < N → xp n = nI (pc n) ∧ yp n = nI (pc n)) : ∀ φ (u : SX) (v : SY), (cr_A op a b fi nx pa N oc pc E lv kd SC dep fu xN xL xp xl xo yN yi yo yp φ u v ∨ cr_B op a b fi nx pa N oc pc E lv kd SC dep fu xN xL xp xl xo yN yi yo yp φ u v ∨ cr_E op a b fi nx pa dep fu xN xL xp xl xo yN yi yo yp u v) → ∀ (q n : Nat) (post : Int32 → SX → Prop), q + φ ≤ 1000000 → φ < n → (∀ u' v', cr_E op a b fi nx pa dep fu xN xL xp xl xo yN yi yo yp u' v' → (∀ postY : Int32 → SY → Prop, postY (xph_ u') v' → ∃ m, yl_ postY m v) → post (xph_ u') u') → xl_ post n (nI q) u := by
  intro φ
  induction φ using Nat.strongRecOn with
  | _ φ ih =>
    intro u v hS q n post hq hn hc
    have go : (∃ u2 v2 kx, xs_ (kx + 1) u u2 ∧ ys_ v v2 ∧ cr_T op a b fi nx pa N oc pc E lv kd SC dep fu xN xL xp xl xo yN yi yo yp φ (kx + 1) u2 v2) → xl_ post n (nI q) u := by
      rintro ⟨u2, v2, kx, r1, r2, φ', r3, r4⟩
      obtain ⟨n', rfl⟩ : ∃ n', n = n' + (kx + 1) := ⟨n - (kx + 1), by omega⟩
      refine r1 post n' q (by omega) ?_
      exact ih φ' (by omega) u2 v2 r4 (q + (kx + 1)) n' post (by omega) (by omega) (fun u' v' hE hY => hc u' v' hE (fun postY hP => by
        obtain ⟨m, hm⟩ := hY postY hP
        exact ⟨m + 1, r2 postY m hm⟩))
    rcases hS with hS | hS | hS
    · exact go (step_A ht hyp hS)
    · exact go (step_B ht hyp hS)
    · obtain ⟨n', rfl⟩ : ∃ n', n = n' + 1 := ⟨n - 1, by omega⟩
      exact end_X hS (hc u v hS (fun postY hP => ⟨1, end_Y (n := 0) hS hP⟩))
end
