section
variable {xd xg xN xL xF xV xC xs ph : Int32} {cr : Int64} {ec en ft bt pr : Int32} {op a b xp fi xl nx xo fn fe vn vo : Nat → Int32} {vv : Nat → Int64} {xst xf xr xh xc fN fX fS fT : Nat → Int32} {fL pv : Nat → Int64}
theorem x_scan {post : SX → Prop} {s l : Nat} {x : Int64} (hs : s < 7) (K : wX_concludeReturn_47 post x (nI l) xd xg xN xL xF xV xC (nI s) ph cr ec en ft bt pr op a b xp fi xl nx xo fn fe vn vo vv xst xf xr xh xc fN fX fS fT fL pv) (hl : l = 0 ∨ (∃ m, fN (s * 128 + l) = nI m ∧ m < 96 ∧ op m = 10)) : ∀ d, l + d < 128 → (∀ i, l < i → i ≤ l + d → ∃ m, fN (s * 128 + i) = nI m ∧ m < 96 ∧ ¬ op m = 10) → ∀ f, wX_concludeReturn_12 post x xd xg xN xL xF xV xC (nI s) ph cr ec en ft bt pr op a b xp fi xl nx xo fn fe vn vo vv xst xf xr xh xc fN fX fS fT fL pv (f + d + 1) (nI (l + d)) := by
  intro d
  induction d with
  | zero =>
    intro h1 h2 f
    rcases Nat.eq_zero_or_pos l with hz | hz
    · subst hz
      exact br_t (by decide) K
    · rcases hl with hl | ⟨m, e1, e2, e3⟩
      · omega
      · have ei := nc_ (n := s * 128 + l) (by omega)
        have em := nc_ (n := m) (by omega)
        rw [Nat.add_zero l]
        refine br_f (nI_nle (by omega) (by omega)) ?_
        show vp_in (nI s * 128 + nI l) 896 ∧ _
        rw [ix_x0, ei, e1, em]
        exact ⟨vi_ (by omega) (by omega), vi_ e2 (by omega), br_t e3 K⟩
  | succ d ih =>
    intro h1 h2 f
    obtain ⟨m, e1, e2, e3⟩ := h2 (l + d + 1) (by omega) (by omega)
    have ei := nc_ (n := s * 128 + (l + d + 1)) (by omega)
    have em := nc_ (n := m) (by omega)
    rw [show l + (d + 1) = l + d + 1 by omega]
    refine br_f (nI_nle (by omega) (by omega)) ?_
    show vp_in (nI s * 128 + nI (l + d + 1)) 896 ∧ _
    rw [ix_x0, ei, e1, em]
    refine ⟨vi_ (by omega) (by omega), vi_ e2 (by omega), br_f e3 (nm_r (pk_m1 (l + d)) ?_)⟩
    exact ih (by omega) (fun i h3 h4 => h2 i h3 (by omega)) f
theorem x_ret {post : SX → Prop} {s h : Nat} {x : Int64} (hs : s < 7) (hh : xh s = nI (h + 1)) (K : ∃ f, wX_concludeReturn_12 post x xd xg xN xL xF xV xC (nI s) ph cr ec en ft bt pr op a b xp fi xl nx xo fn fe vn vo vv xst xf xr xh xc fN fX fS fT fL pv f (nI h)) : wpX_concludeReturn post (xd, xg, xN, xL, xF, xV, xC, (nI s), ph, cr, ec, en, ft, bt, pr, op, a, b, xp, fi, xl, nx, xo, fn, fe, vn, vo, vv, xst, xf, xr, xh, xc, fN, fX, fS, fT, fL, pv) x := by
  have e := nc_ (n := s) (by omega)
  exact ⟨vi_ hs (by omega), nm_r (e' := nI h) (by rw [e, hh, nI_pred]) K⟩
theorem x_ret47a {post : SX → Prop} {s l c : Nat} {x : Int64} (hs : s < 7) (hc : xc s = nI (c + 1)) (hc9 : c < 1000) (K : post (xd, xg, xN, xL, xF, xV, xC, (nI s), (-2), x, ec, en, ft, bt, pr, op, a, b, xp, fi, xl, nx, xo, fn, fe, vn, vo, vv, xst, xf, xr, (upd xh s (nI l)), (upd xc s (nI c)), fN, fX, fS, fT, fL, pv)) : wX_concludeReturn_47 post x (nI l) xd xg xN xL xF xV xC (nI s) ph cr ec en ft bt pr op a b xp fi xl nx xo fn fe vn vo vv xst xf xr xh xc fN fX fS fT fL pv := by
  have e := nc_ (n := s) (by omega)
  have w := vi_ (n := s) (N := 7) hs (by omega)
  refine ⟨w, br_f ?_ ⟨w, w, nm_r (e' := upd xc s (nI c)) (by rw [e, hc, nI_pred]) ⟨w, nm_r (e' := upd xh s (nI l)) (by rw [e]) K⟩⟩⟩
  rw [e, hc]; exact nI_nle (by omega) (by omega)
theorem x_ret47b {post : SX → Prop} {s l : Nat} {x : Int64} (hs : s < 7) (hc : xc s = nI 0) (K : post (xd, xg, xN, xL, xF, xV, xC, (nI s), (-2), x, ec, en, ft, bt, pr, op, a, b, xp, fi, xl, nx, xo, fn, fe, vn, vo, vv, xst, xf, xr, (upd xh s (nI l)), xc, fN, fX, fS, fT, fL, pv)) : wX_concludeReturn_47 post x (nI l) xd xg xN xL xF xV xC (nI s) ph cr ec en ft bt pr op a b xp fi xl nx xo fn fe vn vo vv xst xf xr xh xc fN fX fS fT fL pv := by
  have e := nc_ (n := s) (by omega)
  have w := vi_ (n := s) (N := 7) hs (by omega)
  refine ⟨w, br_t ?_ ⟨w, nm_r (e' := upd xh s (nI l)) (by rw [e]) K⟩⟩
  rw [e, hc]; decide
end
section
variable {yd yg yN yi yo yV yF yC ys yft ybt res yer ypl ypr rn hs : Int32} {gv gt : Int64} {op a b pa fi nx yp wn wu gn ge : Nat → Int32} {wv : Nat → Int64} {yl ya ye : Nat → Int32} {yk : Nat → Int64} {yt yc yst yf yr : Nat → Int32} {ou : Nat → Int64}
theorem y_scan {s wl : Nat} {v : Int64} (h7 : s < 7) (hf : ∃ m, yl (112 * s + wl) = nI m ∧ m < 96 ∧ op m = 10) : ∀ d (yt : Nat → Int32), yt s = nI (wl + d + 1) → wl + d < 112 → (∀ i, 1 ≤ i → i ≤ d → ∃ m, yl (112 * s + (wl + i)) = nI m ∧ m < 96 ∧ ¬ op m = 10) → ∃ yt' : Nat → Int32, yt' s = nI (wl + 1) ∧ (∀ x, upd yt' s x = upd yt s x) ∧ ∀ (post : SY → Prop) (f : Nat), wY_giveBack_62 post v yd yg yN yi yo yV yF yC (nI s) yft ybt res yer ypl ypr rn hs gv gt op a b pa fi nx yp wn wu gn ge wv yl ya ye yk yt' yc yst yf yr ou → wY_giveBack_0 post v yd yg yN yi yo yV yF yC (nI s) yft ybt res yer ypl ypr rn hs gv gt (f + d + 1) op a b pa fi nx yp wn wu gn ge wv yl ya ye yk yt yc yst yf yr ou := by
  have e := nc_ (n := s) (by omega)
  have v7 := vi_ (n := s) (N := 7) h7 (by omega)
  intro d
  induction d with
  | zero =>
    intro yt ht hw _
    obtain ⟨m, e1, e2, e3⟩ := hf
    have ei := nc_ (n := 112 * s + wl) (by omega)
    have em := nc_ (n := m) (by omega)
    refine ⟨yt, ht, fun x => rfl, fun post f K => ⟨v7, br_f ?_ ⟨v7, ?_⟩⟩⟩
    · rw [e, ht]; exact nI_nle (by omega) (by omega)
    · rw [e, ht]
      show vp_in (112 * nI s + nI (wl + 1) - 1) 784 ∧ _
      rw [Nat.add_zero, ix_y, ei, e1, em]
      exact ⟨vi_ (by omega) (by omega), vi_ e2 (by omega), br_t e3 K⟩
  | succ d ih =>
    intro yt ht hw h2
    obtain ⟨m, e1, e2, e3⟩ := h2 (d + 1) (by omega) (by omega)
    have ei := nc_ (n := 112 * s + (wl + (d + 1))) (by omega)
    have em := nc_ (n := m) (by omega)
    obtain ⟨yt', h5, h6, h8⟩ := ih (upd yt s (nI (wl + d + 1))) pk_us (by omega) (fun i h3 h4 => h2 i h3 (by omega))
    refine ⟨yt', h5, fun x => (h6 x).trans up_same, fun post f K => ⟨v7, br_f ?_ ⟨v7, ?_⟩⟩⟩
    · rw [e, ht]; exact nI_nle (by omega) (by omega)
    · rw [e, ht]
      show vp_in (112 * nI s + nI (wl + (d + 1) + 1) - 1) 784 ∧ _
      rw [ix_y, ei, e1, em]
      refine ⟨vi_ (by omega) (by omega), vi_ e2 (by omega), br_f e3 ⟨v7, v7, nm_r (e' := upd yt s (nI (wl + d + 1))) (by rw [nI_pred]; rfl) ?_⟩⟩
      exact h8 post f K
theorem y_scan0 {s : Nat} {v : Int64} (h7 : s < 7) : ∀ d (yt : Nat → Int32), yt s = nI d → d ≤ 112 → (∀ i, i < d → ∃ m, yl (112 * s + i) = nI m ∧ m < 96 ∧ ¬ op m = 10) → ∃ yt' : Nat → Int32, yt' s = nI 0 ∧ ∀ (post : SY → Prop) (f : Nat), wY_giveBack_62 post v yd yg yN yi yo yV yF yC (nI s) yft ybt res yer ypl ypr rn hs gv gt op a b pa fi nx yp wn wu gn ge wv yl ya ye yk yt' yc yst yf yr ou → wY_giveBack_0 post v yd yg yN yi yo yV yF yC (nI s) yft ybt res yer ypl ypr rn hs gv gt (f + d + 1) op a b pa fi nx yp wn wu gn ge wv yl ya ye yk yt yc yst yf yr ou := by
  have e := nc_ (n := s) (by omega)
  have v7 := vi_ (n := s) (N := 7) h7 (by omega)
  intro d
  induction d with
  | zero =>
    intro yt ht hw _
    refine ⟨yt, ht, fun post f K => ⟨v7, br_t ?_ K⟩⟩
    rw [e, ht]; decide
  | succ d ih =>
    intro yt ht hw h2
    obtain ⟨m, e1, e2, e3⟩ := h2 d (by omega)
    have ei := nc_ (n := 112 * s + d) (by omega)
    have em := nc_ (n := m) (by omega)
    obtain ⟨yt', h5, h8⟩ := ih (upd yt s (nI d)) pk_us (by omega) (fun i h3 => h2 i (by omega))
    refine ⟨yt', h5, fun post f K => ⟨v7, br_f ?_ ⟨v7, ?_⟩⟩⟩
    · rw [e, ht]; exact nI_nle (by omega) (by omega)
    · rw [e, ht]
      show vp_in (112 * nI s + nI (d + 1) - 1) 784 ∧ _
      rw [ix_y, ei, e1, em]
      exact ⟨vi_ (by omega) (by omega), vi_ e2 (by omega), br_f e3 ⟨v7, v7, nm_r (e' := upd yt s (nI d)) (by rw [nI_pred]) (h8 post f K)⟩⟩
theorem y_gb0 {post : SY → Prop} {s : Nat} {v : Int64} (h7 : s < 7) (ht : yt s = nI 0) (K : post (yd, yg, yN, yi, yo, yV, yF, yC, (nI s), yft, ybt, 0, yer, ypl, ypr, 0, hs, v, gt, op, a, b, pa, fi, nx, yp, wn, wu, gn, ge, wv, yl, ya, ye, yk, yt, yc, yst, yf, yr, ou)) : wY_giveBack_62 post v yd yg yN yi yo yV yF yC (nI s) yft ybt res yer ypl ypr rn hs gv gt op a b pa fi nx yp wn wu gn ge wv yl ya ye yk yt yc yst yf yr ou := by
  have e := nc_ (n := s) (by omega)
  exact ⟨vi_ h7 (by omega), br_t (by rw [e, ht]; rfl) K⟩
theorem y_gb1 {post : SY → Prop} {s w : Nat} {v : Int64} (h7 : s < 7) (ht : yt s = nI (w + 1)) (hw : w < 112) (K : wpY_finish post (yd, yg, yN, yi, yo, yV, yF, yC, (nI s), yft, ybt, res, yer, ypl, ypr, rn, hs, gv, gt, op, a, b, pa, fi, nx, yp, wn, wu, gn, ge, wv, yl, ya, ye, yk, yt, yc, yst, yf, yr, ou) v) : wY_giveBack_62 post v yd yg yN yi yo yV yF yC (nI s) yft ybt res yer ypl ypr rn hs gv gt op a b pa fi nx yp wn wu gn ge wv yl ya ye yk yt yc yst yf yr ou := by
  have e := nc_ (n := s) (by omega)
  exact ⟨vi_ h7 (by omega), br_f (by rw [e, ht]; exact nI_ne0 (by omega) (by omega)) K⟩
end
section
variable {op a b fi nx pa : Nat → Int32} {N : Nat} {oc pc E lv : Nat → Nat} {kd : Nat → Nat → Nat} {SC : Nat → Int32 → Prop}
variable {F C V : Nat} {D : Nat → Int32 → Prop} {K T : Nat → Nat → Nat} {fN fX fS fT : Nat → Int32} {fL : Nat → Int64} {yl ya ye : Nat → Int32} {yk : Nat → Int64} {P H : Nat → Nat} {dep : Nat} {xh xc yt yc fn fe gn ge vn vo : Nat → Int32} {vv : Nat → Int64} {wn wu : Nat → Int32} {wv : Nat → Int64} {xst xf xr yst yf yr : Nat → Int32} {Q : Nat → Nat} {k s h : Nat}
variable {fu : Nat} {xN xL : Int32} {xp xl xo : Nat → Int32} {yN yi yo : Int32} {yp : Nat → Int32}
variable {ph ec en ft : Int32} {cr gv gt : Int64} {q w φ : Nat} {pv ou : Nat → Int64} {hs : Int32}
/-- the topmost function among the waiting frames, or none -/
theorem cf_top (ht : (ct_all op a b fi nx pa N oc pc E lv kd SC)) (h1 : (cf_FR N oc pc E lv kd a b SC F C V D K T fN fX fS fT fL yl ya ye yk s h)) (hK0 : K s 0 = 0) (hK : K s h ≤ 6) : ∀ m, m ≤ h → (K s m = 0 ∧ ∀ i, i < m → ∃ n, n < N ∧ oc n ≠ 10 ∧ fN (s * 128 + i) = nI n ∧ yl (cy_ K s i) = nI n ∧ K s (i + 1) = 0) ∨ (∃ l, l < m ∧ K s m = K s (l + 1) ∧ K s (l + 1) = K s l + 1 ∧ (∃ n, n < N ∧ oc n = 10 ∧ fN (s * 128 + l) = nI n ∧ yl (cy_ K s l) = nI n) ∧ ∀ i, l < i → i < m → ∃ n, n < N ∧ oc n ≠ 10 ∧ fN (s * 128 + i) = nI n ∧ yl (cy_ K s i) = nI n ∧ K s (i + 1) = K s (l + 1)) := by
  intro m
  induction m with
  | zero => intro _; exact Or.inl ⟨hK0, fun i hi => by omega⟩
  | succ m ih =>
    intro hm
    obtain ⟨n, i, e, ⟨⟨g1, g2, g3, g4⟩, ⟨g5, g6, g7⟩, ⟨g8, g9, g10⟩, g11, g12, ⟨g13, g14, g15⟩⟩, hn, hT⟩ := h1 m (by omega)
    by_cases h10 : oc n = 10
    · rw [if_pos h10] at g13
      exact Or.inr ⟨m, by omega, rfl, g13, ⟨n, g1, h10, g5, g8⟩, fun i h3 h4 => by omega⟩
    · rw [if_neg h10] at g13
      rcases ih (by omega) with ⟨a1, a2⟩ | ⟨l, a1, a2, a3, a4, a5⟩
      · refine Or.inl ⟨by omega, fun i hi => ?_⟩
        rcases Nat.lt_or_ge i m with h3 | h3
        · exact a2 i h3
        · obtain rfl : i = m := by omega
          exact ⟨n, g1, h10, g5, g8, by omega⟩
      · refine Or.inr ⟨l, by omega, by omega, a3, a4, fun i h3 h4 => ?_⟩
        rcases Nat.lt_or_ge i m with h5 | h5
        · exact a5 i h3 h5
        · obtain rfl : i = m := by omega
          exact ⟨n, g1, h10, g5, g8, by omega⟩
theorem op_ne {n : Nat} (ht : (ct_all op a b fi nx pa N oc pc E lv kd SC)) (hn : n < N) (ho : oc n ≠ 10) : ¬ op n = 10 := fun h => by
  have h2 := (ct_op ht hn rfl).symm.trans h
  have := (nI_eq (a := oc n) (b := 10) (by have := (ht.2.2.2.2 n hn).1.1; omega) (by omega)).mp h2
  omega
theorem sA_ret {n i e : Nat} (ht : (ct_all op a b fi nx pa N oc pc E lv kd SC)) (hyp : ∀ n, n < N → xp n = nI (pc n) ∧ yp n = nI (pc n)) (h1 : (cc_C N oc pc E lv kd a b SC F C V D K T fN fX fS fT fL yl ya ye yk P H dep xh xc yt yc fn fe gn ge vn vo vv wn wu wv xst xf xr yst yf yr Q k s h)) (g1 : n < N) (g2 : oc n < 19) (g3 : i < pc n) (g4 : e ≤ V) (g5 : fN (s * 128 + h) = nI n) (g6 : fT (s * 128 + h) = nI (ct_tk (oc n) i)) (g7 : fS (s * 128 + h) = nI e) (g8 : yl (112 * s + (h + K s (h + 1) - cz_ s)) = nI n) (g9 : ya (112 * s + (h + K s (h + 1) - cz_ s)) = nI i) (g10 : ye (112 * s + (h + K s (h + 1) - cz_ s)) = nI e - 1) (g11 : ∀ c, ct_in oc a b SC n i c → D e c) (g12 : cf_S F C (oc n) i (fun q => fL ((s * 128 + h) * 4 + q)) (fun q => yk (3 * (112 * s + (h + K s (h + 1) - cz_ s)) + q))) (g13 : K s (h + 1) = K s h + (if oc n = 10 then 1 else 0)) (g14 : cz_ s ≤ K s (h + 1)) (g15 : h + 1 + K s (h + 1) ≤ 16 * K s (h + 1) + lv n + cz_ s) (hn : fX (s * 128 + h) = ct_nx pc kd n (i + 1)) (hT : T s h + 4 * (E n - E (kd n i)) + 3 ≤ T s (h + 1)) (b1 : K s (h + 1) ≤ dep) (b2 : T s (h + 1) + 2 ≤ P s) (b3 : xh s = nI (h + 1)) (b4 : yt s = nI (h + 1 + K s (h + 1) - cz_ s)) (b5 : xc s = nI (K s (h + 1))) (b6 : yc s = nI (K s (h + 1))) (hk : (cr_K φ fu q w F C P pv ou)) (hv : cv_R F C cr gt) (hd : oc n = 12) : ∃ u2 v2 kx, xs_ (kx + 1) ((nI dep), (nI fu), xN, xL, (nI F), (nI V), (nI C), (nI s), (-2), cr, ec, en, ft, (nI q), (nI w), op, a, b, xp, fi, xl, nx, xo, fn, fe, vn, vo, vv, xst, xf, xr, xh, xc, fN, fX, fS, fT, fL, pv) u2 ∧ (∀ post : SY → Prop, post v2 → wpY_deliver post ((nI dep), (nI fu), yN, yi, yo, (nI V), (nI F), (nI C), (nI s), ft, (nI q), 0, 0, (-1), (nI w), 1, 0, gv, gt, op, a, b, pa, fi, nx, yp, wn, wu, gn, ge, wv, yl, ya, ye, yk, yt, yc, yst, yf, yr, ou) gt) ∧ cr_T op a b fi nx pa N oc pc E lv kd SC dep fu xN xL xp xl xo yN yi yo yp φ (kx + 1) u2 v2 := by
  have h7 := (cc_s h1).2
  have h6 := cc_dep h1
  have hKK : K s h ≤ K s (h + 1) := by omega
  have hh := cf_h ht (cc_FR h1) (by omega)
  have hN := ht.2.1
  have hl := (ht.2.2.2.2 n g1).2.2.2.1.2 (by omega)
  have hzl := cz_le s
  have hw : h + K s (h + 1) - cz_ s < 112 := by omega
  have o_ : op n = nI (oc n) := ct_op ht g1 rfl
  have b4' : yt s = nI (h + K s (h + 1) - cz_ s + 1) := by rw [b4]; exact congrArg nI (by omega)
  have hpn := (ht.2.2.2.2 n g1).1.2.2.2
  have yp_ := (hyp n g1).2
  have hEn := ct_E ht g1
  have hkd := (ht.2.2.2.2 n g1).2.2.2.2.2.1
  have h10 : oc n ≠ 10 := by omega
  have hK0 : K s (h + 1) = K s h := by rw [g13, if_neg h10]; rfl
  have b4p : yt s = nI (h + K s h - cz_ s + 1) := by rw [← hK0]; exact b4'
  have g8p : yl (112 * s + (h + K s h - cz_ s)) = nI n := by rw [← hK0]; exact g8
  have b1p : K s h ≤ dep := by omega
  have b5p : xc s = nI (K s h) := by rw [← hK0]; exact b5
  have b6p : yc s = nI (K s h) := by rw [← hK0]; exact b6
  have hwp : h + K s h - cz_ s < 112 := by omega
  have hsh : 1 ≤ s → 1 ≤ h := fun hs1 => by
    have z1 := cz_1 hs1
    rcases Nat.eq_zero_or_pos h with hz | hz
    · subst hz
      have := h1.2.1 s
      omega
    · exact hz
  have hp1 := ct_p1 ht g1 (by omega)
  obtain rfl : i = 0 := by omega
  have o12 : op n = 12 := o_.trans (by rw [hd]; rfl)
  have e0 : vp_updL fL ((s * 128 + h) * 4 + 0) cr ((s * 128 + h) * 4) = cr := pk_uLs
  have h2 := cc_tk (n := n) (i := 0) (x := cr) ht h1 b1p (by omega)
  have hF := cc_FR h1
  have hφ2 : P s ≤ φ := by have h3 := sm_le (f := P) 7 h7; have h4 := hk.1.2.2.1; omega
  have hK00 := h1.2.1 s
  rcases cf_top ht hF (h1.2.1 s) (by omega) h (Nat.le_refl _) with ⟨a1, a2⟩ | ⟨l, a1, a2, a3, ⟨m, m1, m2, m3, m4⟩, a5⟩
  · have hs0 : s = 0 := by
      rcases Nat.eq_zero_or_pos s with hz | hz
      · exact hz
      · have := cz_1 hz; omega
    subst hs0
    have hz0 : cz_ 0 = 0 := rfl
    have hcy : ∀ i, K 0 (i + 1) = 0 → cy_ K 0 i = 112 * 0 + i := fun i hi => by unfold cy_; rw [hi, hz0]; rfl
    have xF : ∀ post : SX → Prop, post ((nI dep), (nI fu), xN, xL, (nI F), (nI V), (nI C), (nI 0), (-2), cr, ec, en, ft, (nI q), (nI w), op, a, b, xp, fi, xl, nx, xo, fn, fe, vn, vo, vv, xst, xf, xr, (upd xh 0 (nI 0)), xc, fN, fX, fS, (upd fT (0 * 128 + h) (nI (0 + 1))), (vp_updL fL ((0 * 128 + h) * 4 + 0) cr), pv) → wpX_conclude post ((nI dep), (nI fu), xN, xL, (nI F), (nI V), (nI C), (nI 0), (-1), cr, ec, en, ft, (nI q), (nI w), op, a, b, xp, fi, xl, nx, xo, fn, fe, vn, vo, vv, xst, xf, xr, xh, xc, fN, fX, fS, (upd fT (0 * 128 + h) (nI (0 + 1))), (vp_updL fL ((0 * 128 + h) * 4 + 0) cr), pv) (nI (0 * 128 + h)) := by
      intro post KK
      refine x_c12 h7 (by omega) g5 (by omega) o12 ?_
      rw [e0]
      refine x_ret h7 b3 ⟨0 + h + 1, ?_⟩
      have k47 : wX_concludeReturn_47 post cr (nI 0) (nI dep) (nI fu) xN xL (nI F) (nI V) (nI C) (nI 0) (-1) cr ec en ft (nI q) (nI w) op a b xp fi xl nx xo fn fe vn vo vv xst xf xr xh xc fN fX fS (upd fT (0 * 128 + h) (nI (0 + 1))) (vp_updL fL ((0 * 128 + h) * 4 + 0) cr) pv := x_ret47b h7 (by rw [b5p, a1]) KK
      have := x_scan (l := 0) h7 k47 (Or.inl rfl) h (by omega) (fun i h3 h4 => by
          rcases Nat.lt_or_ge i h with h5 | h5
          · obtain ⟨m, n1, n2, n3, _, _⟩ := a2 i h5
            exact ⟨m, n3, by omega, op_ne ht n1 n2⟩
          · obtain rfl : i = h := by omega
            exact ⟨n, g5, by omega, op_ne ht g1 h10⟩) 0
      rw [Nat.zero_add h] at this
      rw [Nat.zero_add h]
      exact this
    obtain ⟨yt', t1, t2⟩ := y_scan0 (yd := nI dep) (yg := nI fu) (yN := yN) (yi := yi) (yo := yo) (yV := nI V) (yF := nI F) (yC := nI C) (yft := ft) (ybt := nI q) (res := 0) (yer := 0) (ypl := -1) (ypr := nI w) (rn := 1) (hs := 0) (gv := gv) (gt := gt) (op := op) (a := a) (b := b) (pa := pa) (fi := fi) (nx := nx) (yp := yp) (wn := wn) (wu := wu) (gn := gn) (ge := ge) (wv := wv) (yl := yl) (ya := ya) (ye := ye) (yk := yk) (yc := yc) (yst := yst) (yf := yf) (yr := yr) (ou := ou) (s := 0) (v := gt) h7 (h + 1) yt (by rw [b4p, a1, hz0]; rfl) (by omega) (fun i h3 => by
          rcases Nat.lt_or_ge i h with h5 | h5
          · obtain ⟨m, n1, n2, _, n4, n5⟩ := a2 i h5
            rw [hcy i n5] at n4
            exact ⟨m, n4, by omega, op_ne ht n1 n2⟩
          · obtain rfl : i = h := by omega
            rw [a1, hz0] at g8p
            exact ⟨n, g8p, by omega, op_ne ht g1 h10⟩)
    exact sA_ap ht hyp h1 g1 g2 g3 g4 g5 g6 g7 g8 g9 g10 g11 g12 g13 g14 g15 hn hT b1 b2 b3 b4 b5 b6 hk hv (Or.inr (Or.inl (by omega))) (by omega) xF (xs_d (fun post KK => x_delM pk_us KK)) (fun post KK => y_a12 h7 hw (by omega) o12 ⟨0 + (h + 1) + 1, t2 post 0 (y_gb0 h7 t1 KK)⟩) (cr_mkE (by omega) h1.1.1 h1.1.2.1 (by have := hk.1.2.2.2; omega) (by decide) ⟨0, by omega, rfl, rfl, fun _ => hv, fun h => by omega, fun _ => ⟨rfl, rfl⟩⟩ hk.2)
  · have hTl := cf_Tle hF (h - l) l (by omega)
    have hKl := cf_Kle hF (h - l) l (by omega)
    have o10 : op m = 10 := ct_op ht m1 m2
    have xF : ∀ post : SX → Prop, post ((nI dep), (nI fu), xN, xL, (nI F), (nI V), (nI C), (nI s), (-2), cr, ec, en, ft, (nI q), (nI w), op, a, b, xp, fi, xl, nx, xo, fn, fe, vn, vo, vv, xst, xf, xr, (upd xh s (nI l)), (upd xc s (nI (K s l))), fN, fX, fS, (upd fT (s * 128 + h) (nI (0 + 1))), (vp_updL fL ((s * 128 + h) * 4 + 0) cr), pv) → wpX_conclude post ((nI dep), (nI fu), xN, xL, (nI F), (nI V), (nI C), (nI s), (-1), cr, ec, en, ft, (nI q), (nI w), op, a, b, xp, fi, xl, nx, xo, fn, fe, vn, vo, vv, xst, xf, xr, xh, xc, fN, fX, fS, (upd fT (s * 128 + h) (nI (0 + 1))), (vp_updL fL ((s * 128 + h) * 4 + 0) cr), pv) (nI (s * 128 + h)) := by
      intro post KK
      refine x_c12 h7 (by omega) g5 (by omega) o12 ?_
      rw [e0]
      refine x_ret h7 b3 ⟨0 + (h - l) + 1, ?_⟩
      have k47 : wX_concludeReturn_47 post cr (nI l) (nI dep) (nI fu) xN xL (nI F) (nI V) (nI C) (nI s) (-1) cr ec en ft (nI q) (nI w) op a b xp fi xl nx xo fn fe vn vo vv xst xf xr xh xc fN fX fS (upd fT (s * 128 + h) (nI (0 + 1))) (vp_updL fL ((s * 128 + h) * 4 + 0) cr) pv := x_ret47a h7 (by rw [b5p, a2, a3]) (by omega) KK
      have := x_scan (l := l) h7 k47 (Or.inr ⟨m, m3, by omega, o10⟩) (h - l) (by omega) (fun i h3 h4 => by
          rcases Nat.lt_or_ge i h with h5 | h5
          · obtain ⟨m', n1, n2, n3, _, _⟩ := a5 i h3 h5
            exact ⟨m', n3, by omega, op_ne ht n1 n2⟩
          · obtain rfl : i = h := by omega
            exact ⟨n, g5, by omega, op_ne ht g1 h10⟩) 0
      rw [show l + (h - l) = h by omega] at this
      exact this
    obtain ⟨yt', t1, t2, t3⟩ := y_scan (wl := l + K s (l + 1) - cz_ s) (yd := nI dep) (yg := nI fu) (yN := yN) (yi := yi) (yo := yo) (yV := nI V) (yF := nI F) (yC := nI C) (yft := ft) (ybt := nI q) (res := 0) (yer := 0) (ypl := -1) (ypr := nI w) (rn := 1) (hs := 0) (gv := gv) (gt := gt) (op := op) (a := a) (b := b) (pa := pa) (fi := fi) (nx := nx) (yp := yp) (wn := wn) (wu := wu) (gn := gn) (ge := ge) (wv := wv) (yl := yl) (ya := ya) (ye := ye) (yk := yk) (yc := yc) (yst := yst) (yf := yf) (yr := yr) (ou := ou) (s := s) (v := gt) h7 ⟨m, m4, by omega, o10⟩ (h - l) yt (by rw [b4p]; exact congrArg nI (by omega)) (by omega) (fun i h3 h4 => by
          rcases Nat.lt_or_ge (l + i) h with h5 | h5
          · obtain ⟨m', n1, n2, _, n4, n5⟩ := a5 (l + i) (by omega) h5
            have hc : cy_ K s (l + i) = 112 * s + (l + K s (l + 1) - cz_ s + i) := by unfold cy_; rw [n5]; omega
            rw [hc] at n4
            exact ⟨m', n4, by omega, op_ne ht n1 n2⟩
          · have hc : 112 * s + (h + K s h - cz_ s) = 112 * s + (l + K s (l + 1) - cz_ s + i) := by omega
            rw [hc] at g8p
            exact ⟨n, g8p, by omega, op_ne ht g1 h10⟩)
    have h3 : (cc_C N oc pc E lv kd a b SC F C V D K T fN fX fS (upd fT (s * 128 + h) (nI (0 + 1))) (vp_updL fL ((s * 128 + h) * 4 + 0) cr) yl ya ye yk P H dep xh (upd xc s (nI (K s l))) yt (upd yc s (nI (K s l))) fn fe gn ge vn vo vv wn wu wv xst xf xr yst yf yr Q k s l) := cc_fr ht (cc_to h2 (by omega)) (by omega) (by omega) (fun _ _ _ => rfl) (fun _ _ _ => rfl) ca_r ca_r ca_r ca_r ca_r ca_r ca_r ca_r ca_r ca_r ca_r (ca_u ca_r (by omega) (by omega)) ca_r (ca_u ca_r (by omega) (by omega))
    have b6c : yc s = nI (K s l + 1) := by rw [b6p, a2, a3]
    have hwl : l + K s (l + 1) - cz_ s < 112 := by omega
    by_cases hb : 1 ≤ s ∧ l = 0
    · obtain ⟨hs1, rfl⟩ := hb
      have hw0 : 0 + K s (0 + 1) - cz_ s = 0 := by rw [cz_1 hs1]; omega
      have h4 : (cc_C N oc pc E lv kd a b SC F C V D K T fN fX fS (upd fT (s * 128 + h) (nI (0 + 1))) (vp_updL fL ((s * 128 + h) * 4 + 0) cr) yl ya ye yk P H dep (upd xh s (nI 0)) (upd xc s (nI (K s 0))) (upd yt s (nI (0 + K s (0 + 1) - cz_ s))) (upd yc s (nI (K s 0))) fn fe gn ge vn vo vv wn wu wv xst xf xr yst yf yr Q k s 0) := cc_fr ht h3 (by omega) (by omega) (fun _ _ _ => rfl) (fun _ _ _ => rfl) ca_r ca_r ca_r ca_r ca_r ca_r ca_r ca_r ca_r ca_r (ca_u ca_r (by omega) (by omega)) ca_r (ca_u ca_r (by omega) (by omega)) ca_r
      obtain ⟨r, j, e1, e2, e3, e4, e5, e6, e7, e8⟩ := cr_leave (m := 0) (wd := 2) (d := 3) (ft := ft) (ec := ec) (en := en) (gv := gv) (xN := xN) (xL := xL) (xp := xp) (xl := xl) (xo := xo) (yN := yN) (yi := yi) (yo := yo) (yp := yp) ht h4 (by omega) hk hs1 (Or.inr rfl) (by omega) (fun h => by omega) hv
      exact sA_ap ht hyp h1 g1 g2 g3 g4 g5 g6 g7 g8 g9 g10 g11 g12 g13 g14 g15 hn hT b1 b2 b3 b4 b5 b6 hk hv (Or.inr (Or.inl (by omega))) (by omega) xF (xs_d (fun post KK => x_del0 hs1 h7 e1 pk_us e3 e5 KK)) (fun post KK => y_a12 h7 hw (by omega) o12 ⟨0 + (h - 0) + 1, t3 post 0 (y_gb1 h7 t1 hwl (y_finishF h7 t1 hwl m4 (by omega) o10 (by
        rw [t2]
        exact y_ret0 h7 e1 e4 e2 b6c (by rw [pk_us, hw0]) e6 KK)))⟩) e8
    · have hshl : 1 ≤ s → 1 ≤ l := fun hs1 => by
        rcases Nat.eq_zero_or_pos l with hz | hz
        · exact absurd ⟨hs1, hz⟩ hb
        · exact hz
      have hz := cf_z ht (cc_FR (cc_to h1 (show l ≤ h by omega))) (by omega) hshl
      have hw1 : l + K s (l + 1) - cz_ s = l + K s l - cz_ s + 1 := by omega
      exact sA_ap ht hyp h1 g1 g2 g3 g4 g5 g6 g7 g8 g9 g10 g11 g12 g13 g14 g15 hn hT b1 b2 b3 b4 b5 b6 hk hv (Or.inr (Or.inl (by omega))) (by omega) xF (xs_0 _) (fun post KK => y_a12 h7 hw (by omega) o12 ⟨0 + (h - l) + 1, t3 post 0 (y_gb1 h7 t1 hwl (y_finishF h7 t1 hwl m4 (by omega) o10 (by
        rw [t2]
        refine y_ret1 h7 b6c (by rw [pk_us, hw1]) (by omega) ?_
        rw [up_same]
        exact KK)))⟩) (cr_pop ht h3 (by omega) pk_us pk_us hshl hk (by omega) hv)
end
