section
variable {op a b fi nx pa : Nat → Int32} {N : Nat} {oc pc E lv : Nat → Nat} {kd : Nat → Nat → Nat} {SC : Nat → Int32 → Prop}
variable {F C V : Nat} {D : Nat → Int32 → Prop} {K T : Nat → Nat → Nat} {fN fX fS fT : Nat → Int32} {fL : Nat → Int64} {yl ya ye : Nat → Int32} {yk : Nat → Int64} {P H : Nat → Nat} {dep : Nat} {xh xc yt yc fn fe gn ge vn vo : Nat → Int32} {vv : Nat → Int64} {wn wu : Nat → Int32} {wv : Nat → Int64} {xst xf xr yst yf yr : Nat → Int32} {Q : Nat → Nat} {k s h : Nat}
variable {fu : Nat} {xN xL : Int32} {xp xl xo : Nat → Int32} {yN yi yo : Int32} {yp : Nat → Int32}
variable {ph ec en ft : Int32} {cr gv gt : Int64} {q w φ : Nat} {pv ou : Nat → Int64} {hs : Int32}
theorem ct_op {m o : Nat} (ht : (ct_all op a b fi nx pa N oc pc E lv kd SC)) (hm : m < N) (ho : oc m = o) : op m = nI o := by rw [← ho]; exact (ht.2.2.2.2 m hm).1.2.1
theorem ct_E {m : Nat} (ht : (ct_all op a b fi nx pa N oc pc E lv kd SC)) (hm : m < N) : m < E m ∧ E m ≤ N := ⟨((ht.2.2.2.2 m hm).2.2.2.2.2.2 trivial).2.1, ((ht.2.2.2.2 m hm).2.2.2.2.2.2 trivial).2.2.1⟩
theorem ct_mn' {m : Nat} (ht : (ct_all op a b fi nx pa N oc pc E lv kd SC)) (hm : m < N) : ct_mn (oc m) ≤ pc m ∧ pc m ≤ ct_mx (oc m) := ⟨((ht.2.2.2.2 m hm).2.2.2.2.2.2 trivial).1, (ht.2.2.2.2 m hm).1.2.2.1⟩
theorem ev_num {m e : Nat} (ht : (ct_all op a b fi nx pa N oc pc E lv kd SC)) (hyp : ∀ n, n < N → xp n = nI (pc n) ∧ yp n = nI (pc n)) (h1 : (cc_C N oc pc E lv kd a b SC F C V D K T fN fX fS fT fL yl ya ye yk P H dep xh xc yt yc fn fe gn ge vn vo vv wn wu wv xst xf xr yst yf yr Q k s h)) (hK : K s h ≤ dep) (hxh : xh s = nI h) (hyt : yt s = nI (h + K s h - cz_ s)) (hx : xc s = nI (K s h)) (hy : yc s = nI (K s h)) (hsh : 1 ≤ s → 1 ≤ h) (hk : (cr_K φ fu q w F C P pv ou)) (hm : m < N) (he : e ≤ V) (hD : ∀ c, SC m c → D e c) (hlev : h + 1 + K s h ≤ 16 * K s h + lv m + cz_ s) (hP : T s h + 4 * (E m - m) ≤ P s) (ho : oc m = 20) : ∃ u1 u2 v2 j, (∀ post : SX → Prop, post u1 → wpX_begin post ((nI dep), (nI fu), xN, xL, (nI F), (nI V), (nI C), (nI s), (-1), cr, ec, en, ft, (nI q), (nI w), op, a, b, xp, fi, xl, nx, xo, fn, fe, vn, vo, vv, xst, xf, xr, xh, xc, fN, fX, fS, fT, fL, pv) (nI m) (nI e)) ∧ xs_ j u1 u2 ∧ (∀ post : SY → Prop, post v2 → wpY_evaluate post ((nI dep), (nI fu), yN, yi, yo, (nI V), (nI F), (nI C), (nI s), ft, (nI q), 0, 0, (-1), (nI w), 1, 0, gv, gt, op, a, b, pa, fi, nx, yp, wn, wu, gn, ge, wv, yl, ya, ye, yk, yt, yc, yst, yf, yr, ou) (nI m) (nI e - 1)) ∧ cr_T op a b fi nx pa N oc pc E lv kd SC dep fu xN xL xp xl xo yN yi yo yp φ (j + 1) u2 v2 := by
  have hE := ct_E ht hm
  have hN := ht.2.1
  exact ⟨_, _, _, 0, fun post K => x_bNum (by omega) (ct_op ht hm ho) K, xs_0 _, fun post K => y_eNum (by omega) (ct_op ht hm ho) K, cr_now ht h1 hK hxh hyt hx hy hsh hk (by omega) (cv_num _)⟩
theorem ev_name {m e : Nat} (ht : (ct_all op a b fi nx pa N oc pc E lv kd SC)) (hyp : ∀ n, n < N → xp n = nI (pc n) ∧ yp n = nI (pc n)) (h1 : (cc_C N oc pc E lv kd a b SC F C V D K T fN fX fS fT fL yl ya ye yk P H dep xh xc yt yc fn fe gn ge vn vo vv wn wu wv xst xf xr yst yf yr Q k s h)) (hK : K s h ≤ dep) (hxh : xh s = nI h) (hyt : yt s = nI (h + K s h - cz_ s)) (hx : xc s = nI (K s h)) (hy : yc s = nI (K s h)) (hsh : 1 ≤ s → 1 ≤ h) (hk : (cr_K φ fu q w F C P pv ou)) (hm : m < N) (he : e ≤ V) (hD : ∀ c, SC m c → D e c) (hlev : h + 1 + K s h ≤ 16 * K s h + lv m + cz_ s) (hP : T s h + 4 * (E m - m) ≤ P s) (ho : oc m = 21) : ∃ u1 u2 v2 j, (∀ post : SX → Prop, post u1 → wpX_begin post ((nI dep), (nI fu), xN, xL, (nI F), (nI V), (nI C), (nI s), (-1), cr, ec, en, ft, (nI q), (nI w), op, a, b, xp, fi, xl, nx, xo, fn, fe, vn, vo, vv, xst, xf, xr, xh, xc, fN, fX, fS, fT, fL, pv) (nI m) (nI e)) ∧ xs_ j u1 u2 ∧ (∀ post : SY → Prop, post v2 → wpY_evaluate post ((nI dep), (nI fu), yN, yi, yo, (nI V), (nI F), (nI C), (nI s), ft, (nI q), 0, 0, (-1), (nI w), 1, 0, gv, gt, op, a, b, pa, fi, nx, yp, wn, wu, gn, ge, wv, yl, ya, ye, yk, yt, yc, yst, yf, yr, ou) (nI m) (nI e - 1)) ∧ cr_T op a b fi nx pa N oc pc E lv kd SC dep fu xN xL xp xl xo yN yi yo yp φ (j + 1) u2 v2 := by
  have hE := ct_E ht hm
  have hN := ht.2.1
  have hV2 := h1.1.2.2.1
  have hS := (ht.2.2.2.2 m hm).2.2.1 (Or.inl ho)
  obtain ⟨p, hp, hX, hY⟩ := xy_find (c := a m) (ph := -1) (hs := 0) (ec := ec) (en := en) (ft := ft) (cr := cr) (gv := gv) (gt := gt) (fu := fu) (xN := xN) (xL := xL) (xp := xp) (xl := xl) (xo := xo) (yN := yN) (yi := yi) (yo := yo) (yp := yp) (q := q) (w := w) (pv := pv) (ou := ou) (dep := dep) (s := s) (op := op) (a := a) (b := b) (fi := fi) (nx := nx) (pa := pa) (fn := fn) (fe := fe) (gn := gn) (ge := ge) (xst := xst) (xf := xf) (xr := xr) (xh := xh) (xc := xc) (fN := fN) (fX := fX) (fS := fS) (fT := fT) (fL := fL) (yl := yl) (ya := ya) (ye := ye) (yk := yk) (yt := yt) (yc := yc) (yst := yst) (yf := yf) (yr := yr) h1.2.2.1 hV2 e he (hD _ hS)
  exact ⟨_, _, _, 0, fun post K => x_bName (by omega) (ct_op ht hm ho) (by omega) (fun post' hp' => ⟨_, hX post' 0 0 (by omega) hp'⟩) K, xs_0 _, fun post K => y_eName (by omega) (ct_op ht hm ho) (by omega) (fun post' hp' => ⟨_, hY post' 0 hp'⟩) K, cr_now ht h1 hK hxh hyt hx hy hsh hk (by omega) (h1.2.2.1.2 p hp).2.1⟩
theorem ev_fun {m e : Nat} (ht : (ct_all op a b fi nx pa N oc pc E lv kd SC)) (hyp : ∀ n, n < N → xp n = nI (pc n) ∧ yp n = nI (pc n)) (h1 : (cc_C N oc pc E lv kd a b SC F C V D K T fN fX fS fT fL yl ya ye yk P H dep xh xc yt yc fn fe gn ge vn vo vv wn wu wv xst xf xr yst yf yr Q k s h)) (hK : K s h ≤ dep) (hxh : xh s = nI h) (hyt : yt s = nI (h + K s h - cz_ s)) (hx : xc s = nI (K s h)) (hy : yc s = nI (K s h)) (hsh : 1 ≤ s → 1 ≤ h) (hk : (cr_K φ fu q w F C P pv ou)) (hm : m < N) (he : e ≤ V) (hD : ∀ c, SC m c → D e c) (hlev : h + 1 + K s h ≤ 16 * K s h + lv m + cz_ s) (hP : T s h + 4 * (E m - m) ≤ P s) (ho : oc m = 10) : ∃ u1 u2 v2 j, (∀ post : SX → Prop, post u1 → wpX_begin post ((nI dep), (nI fu), xN, xL, (nI F), (nI V), (nI C), (nI s), (-1), cr, ec, en, ft, (nI q), (nI w), op, a, b, xp, fi, xl, nx, xo, fn, fe, vn, vo, vv, xst, xf, xr, xh, xc, fN, fX, fS, fT, fL, pv) (nI m) (nI e)) ∧ xs_ j u1 u2 ∧ (∀ post : SY → Prop, post v2 → wpY_evaluate post ((nI dep), (nI fu), yN, yi, yo, (nI V), (nI F), (nI C), (nI s), ft, (nI q), 0, 0, (-1), (nI w), 1, 0, gv, gt, op, a, b, pa, fi, nx, yp, wn, wu, gn, ge, wv, yl, ya, ye, yk, yt, yc, yst, yf, yr, ou) (nI m) (nI e - 1)) ∧ cr_T op a b fi nx pa N oc pc E lv kd SC dep fu xN xL xp xl xo yN yi yo yp φ (j + 1) u2 v2 := by
  have hE := ct_E ht hm
  have hN := ht.2.1
  have h7 := (cc_s h1).2
  have h6 := cc_dep h1
  have hh := cf_h ht (cc_FR h1) (by omega)
  rcases Nat.lt_or_ge F 40 with hF | hF
  · have h2 : (cc_C N oc pc E lv kd a b SC (F + 1) C V D K T fN fX fS fT fL yl ya ye yk P H dep xh xc yt yc (upd fn F (nI m)) (upd fe F (nI e)) (upd gn F (nI m)) (upd ge F (nI e - 1)) vn vo vv wn wu wv xst xf xr yst yf yr Q k s h) := by
      have g := h1
      obtain ⟨⟨g1, g2, g3, g4, g5, g6⟩, gK, gV, gF, _⟩ := g
      exact cc_go ht h1 (by omega) (by omega) (Nat.le_succ _) (by omega) (Nat.le_refl _) g3 (fun _ _ _ h => h) (cd_V_F gV (Nat.le_succ _) (Nat.le_refl _)) (cd_F_new gF hm ho he hD) (fun f hf => pk_un (by omega)) (fun _ _ _ => rfl) (fun _ _ _ => rfl) ca_r ca_r ca_r ca_r ca_r ca_r ca_r ca_r ca_r ca_r ca_r ca_r ca_r ca_r ca_r
    exact ⟨_, _, _, 0, fun post K => x_bFun (by omega) (ct_op ht hm ho) hF K, xs_0 _, fun post K => y_eFun (by omega) (ct_op ht hm ho) hF K, cr_now ht h2 hK hxh hyt hx hy hsh (cr_Kmono hk (Nat.le_succ _) (Nat.le_refl _)) (by omega) (cv_fun (by omega) (by omega))⟩
  · obtain rfl : F = 40 := by have := h1.1.1; omega
    have hp7 : P s ≤ φ := by have h3 := sm_le (f := P) 7 h7; have h4 := hk.1.2.2.1; omega
    obtain ⟨u', v', gX, gY, gT⟩ := cr_raise (d := 1) (ph := -1) (hs := 0) (cr := cr) (gt := gt) (gv := gv) (ec := ec) (en := en) (ft := ft) (xN := xN) (xL := xL) (xp := xp) (xl := xl) (xo := xo) (yN := yN) (yi := yi) (yo := yo) (yp := yp) ht h1 hK hk (by omega) (by omega) 7 (nI m)
    exact ⟨u', u', v', 0, fun post K => x_bFun7 (by omega) (ct_op ht hm ho) (gX post K), xs_0 _, fun post K => y_eFun7 (by omega) (ct_op ht hm ho) (gY post K), gT⟩
theorem ev_pop {m e : Nat} {val vy : Int64} {d : Nat} (ht : (ct_all op a b fi nx pa N oc pc E lv kd SC)) (h1 : (cc_C N oc pc E lv kd a b SC F C V D K T fN fX fS fT fL yl ya ye yk P H dep xh xc yt yc fn fe gn ge vn vo vv wn wu wv xst xf xr yst yf yr Q k s h)) (hK : K s h ≤ dep) (hyt : yt s = nI (h + K s h - cz_ s)) (hx : xc s = nI (K s h)) (hy : yc s = nI (K s h)) (hsh : 1 ≤ s → 1 ≤ h) (hk : (cr_K φ fu q w F C P pv ou)) (hd : T s h + 2 + d ≤ P s) (hv : cv_R F C val vy) {z : Int32} :
    cr_T op a b fi nx pa N oc pc E lv kd SC dep fu xN xL xp xl xo yN yi yo yp φ d ((nI dep), (nI fu), xN, xL, (nI F), (nI V), (nI C), (nI s), (-2), val, ec, en, ft, (nI q), (nI w), op, a, b, xp, fi, xl, nx, xo, fn, fe, vn, vo, vv, xst, xf, xr, (upd (upd xh s (nI (h + 1))) s (nI h)), xc, (upd fN (s * 128 + h) (nI m)), (upd fX (s * 128 + h) z), (upd fS (s * 128 + h) (nI e)), (upd fT (s * 128 + h) 0), (vp_updL fL ((s * 128 + h) * 4) 0), pv) ((nI dep), (nI fu), yN, yi, yo, (nI V), (nI F), (nI C), (nI s), ft, (nI q), 0, 0, (-1), (nI w), 1, 1, gv, vy, op, a, b, pa, fi, nx, yp, wn, wu, gn, ge, wv, yl, ya, ye, yk, yt, yc, yst, yf, yr, ou) := by
  have h7 := (cc_s h1).2
  have h6 := cc_dep h1
  have hh := cf_h ht (cc_FR h1) (by omega)
  exact cr_now ht (cc_fr ht h1 (by omega) (by omega) (fun _ _ _ => rfl) (fun _ _ _ => rfl) (ca_u ca_r (by omega) (by omega)) (ca_u ca_r (by omega) (by omega)) (ca_u ca_r (by omega) (by omega)) (ca_u ca_r (by omega) (by omega)) (ca_l ca_r (by omega) (by omega)) ca_r ca_r ca_r ca_r ca_r (ca_u (ca_u ca_r (by omega) (by omega)) (by omega) (by omega)) ca_r ca_r ca_r) hK pk_us hyt hx hy hsh hk hd hv
theorem ev_fault {m e : Nat} (ht : (ct_all op a b fi nx pa N oc pc E lv kd SC)) (hyp : ∀ n, n < N → xp n = nI (pc n) ∧ yp n = nI (pc n)) (h1 : (cc_C N oc pc E lv kd a b SC F C V D K T fN fX fS fT fL yl ya ye yk P H dep xh xc yt yc fn fe gn ge vn vo vv wn wu wv xst xf xr yst yf yr Q k s h)) (hK : K s h ≤ dep) (hxh : xh s = nI h) (hyt : yt s = nI (h + K s h - cz_ s)) (hx : xc s = nI (K s h)) (hy : yc s = nI (K s h)) (hsh : 1 ≤ s → 1 ≤ h) (hk : (cr_K φ fu q w F C P pv ou)) (hm : m < N) (he : e ≤ V) (hD : ∀ c, SC m c → D e c) (hlev : h + 1 + K s h ≤ 16 * K s h + lv m + cz_ s) (hP : T s h + 4 * (E m - m) ≤ P s) (ho : oc m = 19) : ∃ u1 u2 v2 j, (∀ post : SX → Prop, post u1 → wpX_begin post ((nI dep), (nI fu), xN, xL, (nI F), (nI V), (nI C), (nI s), (-1), cr, ec, en, ft, (nI q), (nI w), op, a, b, xp, fi, xl, nx, xo, fn, fe, vn, vo, vv, xst, xf, xr, xh, xc, fN, fX, fS, fT, fL, pv) (nI m) (nI e)) ∧ xs_ j u1 u2 ∧ (∀ post : SY → Prop, post v2 → wpY_evaluate post ((nI dep), (nI fu), yN, yi, yo, (nI V), (nI F), (nI C), (nI s), ft, (nI q), 0, 0, (-1), (nI w), 1, 0, gv, gt, op, a, b, pa, fi, nx, yp, wn, wu, gn, ge, wv, yl, ya, ye, yk, yt, yc, yst, yf, yr, ou) (nI m) (nI e - 1)) ∧ cr_T op a b fi nx pa N oc pc E lv kd SC dep fu xN xL xp xl xo yN yi yo yp φ (j + 1) u2 v2 := by
  have hE := ct_E ht hm
  have hN := ht.2.1
  have h7 := (cc_s h1).2
  have h6 := cc_dep h1
  have hh := cf_h ht (cc_FR h1) (by omega)
  have hp0 : pc m = 0 := by have := (ct_mn' ht hm).2; rw [ho] at this; have e : ct_mx 19 = 0 := rfl; omega
  have hf : fi m = -1 := (ht.2.2.2.2 m hm).2.2.2.2.1.1 hp0
  have o19 : op m = 19 := ct_op ht hm ho
  exact ⟨_, _, _, 1, fun post K => x_bPush h7 hxh (by omega) (by omega) (ct_op ht hm ho) (by omega) (by omega) (fun h => absurd (h.symm.trans o19) (by decide)) (fun _ => rfl) K, xs_a (fun post K => x_adv1 h7 pk_us (by omega) (pk_us.trans hf) (x_con19 h7 pk_us (by omega) pk_us (by omega) o19 K)), fun post K => y_eFault (by omega) o19 K, ev_pop ht h1 hK hyt hx hy hsh hk (by omega) (cv_num _)⟩
theorem ev_seq0 {m e : Nat} (ht : (ct_all op a b fi nx pa N oc pc E lv kd SC)) (hyp : ∀ n, n < N → xp n = nI (pc n) ∧ yp n = nI (pc n)) (h1 : (cc_C N oc pc E lv kd a b SC F C V D K T fN fX fS fT fL yl ya ye yk P H dep xh xc yt yc fn fe gn ge vn vo vv wn wu wv xst xf xr yst yf yr Q k s h)) (hK : K s h ≤ dep) (hxh : xh s = nI h) (hyt : yt s = nI (h + K s h - cz_ s)) (hx : xc s = nI (K s h)) (hy : yc s = nI (K s h)) (hsh : 1 ≤ s → 1 ≤ h) (hk : (cr_K φ fu q w F C P pv ou)) (hm : m < N) (he : e ≤ V) (hD : ∀ c, SC m c → D e c) (hlev : h + 1 + K s h ≤ 16 * K s h + lv m + cz_ s) (hP : T s h + 4 * (E m - m) ≤ P s) (ho : oc m = 6) (hp0 : pc m = 0) : ∃ u1 u2 v2 j, (∀ post : SX → Prop, post u1 → wpX_begin post ((nI dep), (nI fu), xN, xL, (nI F), (nI V), (nI C), (nI s), (-1), cr, ec, en, ft, (nI q), (nI w), op, a, b, xp, fi, xl, nx, xo, fn, fe, vn, vo, vv, xst, xf, xr, xh, xc, fN, fX, fS, fT, fL, pv) (nI m) (nI e)) ∧ xs_ j u1 u2 ∧ (∀ post : SY → Prop, post v2 → wpY_evaluate post ((nI dep), (nI fu), yN, yi, yo, (nI V), (nI F), (nI C), (nI s), ft, (nI q), 0, 0, (-1), (nI w), 1, 0, gv, gt, op, a, b, pa, fi, nx, yp, wn, wu, gn, ge, wv, yl, ya, ye, yk, yt, yc, yst, yf, yr, ou) (nI m) (nI e - 1)) ∧ cr_T op a b fi nx pa N oc pc E lv kd SC dep fu xN xL xp xl xo yN yi yo yp φ (j + 1) u2 v2 := by
  have hE := ct_E ht hm
  have hN := ht.2.1
  have h7 := (cc_s h1).2
  have h6 := cc_dep h1
  have hh := cf_h ht (cc_FR h1) (by omega)
  have hf : fi m = -1 := (ht.2.2.2.2 m hm).2.2.2.2.1.1 hp0
  have o6 : op m = 6 := ct_op ht hm ho
  have hy0 : yp m = 0 := by rw [(hyp m hm).2, hp0]; rfl
  refine ⟨_, _, _, 1, fun post K => x_bPush h7 hxh (by omega) (by omega) (ct_op ht hm ho) (by omega) (by omega) (fun h => absurd (h.symm.trans o6) (by decide)) (fun _ => rfl) K, xs_a (fun post K => x_adv1 h7 pk_us (by omega) (pk_us.trans hf) (x_con6 h7 pk_us (by omega) pk_us (by omega) o6 K)), fun post K => y_eSeq0 (by omega) o6 hy0 K, ?_⟩
  rw [pk_uLs]
  exact ev_pop ht h1 hK hyt hx hy hsh hk (by omega) cv_nil
theorem ct_in0 {m : Nat} {c : Int32} (h : ct_in oc a b SC m 0 c) (ho : oc m ≠ 10) : SC m c := by
  rcases h with h | h | h
  · exact h
  · exact absurd h.2.1 (Nat.lt_irrefl 0)
  · exact absurd h.1 ho
theorem ev_push {m e : Nat} (ht : (ct_all op a b fi nx pa N oc pc E lv kd SC)) (hyp : ∀ n, n < N → xp n = nI (pc n) ∧ yp n = nI (pc n)) (h1 : (cc_C N oc pc E lv kd a b SC F C V D K T fN fX fS fT fL yl ya ye yk P H dep xh xc yt yc fn fe gn ge vn vo vv wn wu wv xst xf xr yst yf yr Q k s h)) (hK : K s h ≤ dep) (hxh : xh s = nI h) (hyt : yt s = nI (h + K s h - cz_ s)) (hx : xc s = nI (K s h)) (hy : yc s = nI (K s h)) (hsh : 1 ≤ s → 1 ≤ h) (hk : (cr_K φ fu q w F C P pv ou)) (hm : m < N) (he : e ≤ V) (hD : ∀ c, SC m c → D e c) (hlev : h + 1 + K s h ≤ 16 * K s h + lv m + cz_ s) (hP : T s h + 4 * (E m - m) ≤ P s) (ho : oc m < 19) (h10 : oc m ≠ 10) (h7' : oc m ≠ 7) (hp : 0 < pc m) : ∃ u1 u2 v2 j, (∀ post : SX → Prop, post u1 → wpX_begin post ((nI dep), (nI fu), xN, xL, (nI F), (nI V), (nI C), (nI s), (-1), cr, ec, en, ft, (nI q), (nI w), op, a, b, xp, fi, xl, nx, xo, fn, fe, vn, vo, vv, xst, xf, xr, xh, xc, fN, fX, fS, fT, fL, pv) (nI m) (nI e)) ∧ xs_ j u1 u2 ∧ (∀ post : SY → Prop, post v2 → wpY_evaluate post ((nI dep), (nI fu), yN, yi, yo, (nI V), (nI F), (nI C), (nI s), ft, (nI q), 0, 0, (-1), (nI w), 1, 0, gv, gt, op, a, b, pa, fi, nx, yp, wn, wu, gn, ge, wv, yl, ya, ye, yk, yt, yc, yst, yf, yr, ou) (nI m) (nI e - 1)) ∧ cr_T op a b fi nx pa N oc pc E lv kd SC dep fu xN xL xp xl xo yN yi yo yp φ (j + 1) u2 v2 := by
  have hE := ct_E ht hm
  have hN := ht.2.1
  have h7 := (cc_s h1).2
  have h6 := cc_dep h1
  have hh := cf_h ht (cc_FR h1) (by omega)
  have hz := cf_z ht (cc_FR h1) (by omega) hsh
  have hzl := cz_le s
  have hl := (ht.2.2.2.2 m hm).2.2.2.1.2 (by omega)
  have kd0 := (ht.2.2.2.2 m hm).2.2.2.2.2.1 0 hp
  have hf : fi m = nI (kd m 0) := (ht.2.2.2.2 m hm).2.2.2.2.1.2 hp
  have hn7 : ¬ op m = 7 := fun h => by
    have h2 := (ct_op ht hm rfl).symm.trans h
    have := (nI_eq (a := oc m) (b := 7) (by omega) (by omega)).mp h2
    omega
  have hp2 : ¬ yp m = 0 := by rw [(hyp m hm).2]; exact nI_ne0 hp (by have := (ht.2.2.2.2 m hm).1.2.2.2; omega)
  obtain ⟨φ', hφ, hk'⟩ := cr_P (P' := ch_ P s (T s h + 4 * (E m - kd m 0) + 3)) (d := 1) hk h7 rfl (by omega)
  refine ⟨_, _, _, 0, fun post K => x_bPush h7 hxh (by omega) (by omega) (ct_op ht hm rfl) (by omega) h10 (fun h => absurd h hn7) (fun _ => hf.symm) K, xs_0 _, fun post K => y_ePush (by omega) (ct_op ht hm rfl) ho h10 h7' hp2 h7 hyt (by omega) K, ?_⟩
  have := cr_new (e := e) (k1 := K s h) (q' := q) (d := 1) (xN := xN) (xL := xL) (xp := xp) (xl := xl) (xo := xo) (yN := yN) (yi := yi) (yo := yo) (yp := yp) (ec := ec) (en := en) (ft := ft) (cr := cr) (gv := gv) (gt := gt) ht h1 hK (by rw [if_neg h10]; rfl) hK hz hm ho hp he (fun c hc => hD c (ct_in0 hc h10)) hlev hx hy hφ hk'
  rw [show h + K s h - cz_ s + 1 = h + 1 + K s h - cz_ s by omega]
  exact this
theorem ev_while {m e : Nat} (ht : (ct_all op a b fi nx pa N oc pc E lv kd SC)) (hyp : ∀ n, n < N → xp n = nI (pc n) ∧ yp n = nI (pc n)) (h1 : (cc_C N oc pc E lv kd a b SC F C V D K T fN fX fS fT fL yl ya ye yk P H dep xh xc yt yc fn fe gn ge vn vo vv wn wu wv xst xf xr yst yf yr Q k s h)) (hK : K s h ≤ dep) (hxh : xh s = nI h) (hyt : yt s = nI (h + K s h - cz_ s)) (hx : xc s = nI (K s h)) (hy : yc s = nI (K s h)) (hsh : 1 ≤ s → 1 ≤ h) (hk : (cr_K φ fu q w F C P pv ou)) (hm : m < N) (he : e ≤ V) (hD : ∀ c, SC m c → D e c) (hlev : h + 1 + K s h ≤ 16 * K s h + lv m + cz_ s) (hP : T s h + 4 * (E m - m) ≤ P s) (ho : oc m = 7) : ∃ u1 u2 v2 j, (∀ post : SX → Prop, post u1 → wpX_begin post ((nI dep), (nI fu), xN, xL, (nI F), (nI V), (nI C), (nI s), (-1), cr, ec, en, ft, (nI q), (nI w), op, a, b, xp, fi, xl, nx, xo, fn, fe, vn, vo, vv, xst, xf, xr, xh, xc, fN, fX, fS, fT, fL, pv) (nI m) (nI e)) ∧ xs_ j u1 u2 ∧ (∀ post : SY → Prop, post v2 → wpY_evaluate post ((nI dep), (nI fu), yN, yi, yo, (nI V), (nI F), (nI C), (nI s), ft, (nI q), 0, 0, (-1), (nI w), 1, 0, gv, gt, op, a, b, pa, fi, nx, yp, wn, wu, gn, ge, wv, yl, ya, ye, yk, yt, yc, yst, yf, yr, ou) (nI m) (nI e - 1)) ∧ cr_T op a b fi nx pa N oc pc E lv kd SC dep fu xN xL xp xl xo yN yi yo yp φ (j + 1) u2 v2 := by
  have hE := ct_E ht hm
  have hN := ht.2.1
  have h7 := (cc_s h1).2
  have h6 := cc_dep h1
  have hh := cf_h ht (cc_FR h1) (by omega)
  have hz := cf_z ht (cc_FR h1) (by omega) hsh
  have hzl := cz_le s
  have hl := (ht.2.2.2.2 m hm).2.2.2.1.2 (by omega)
  have hp : 0 < pc m := by have := (ct_mn' ht hm).1; rw [ho] at this; have e : ct_mn 7 = 1 := rfl; omega
  have kd0 := (ht.2.2.2.2 m hm).2.2.2.2.2.1 0 hp
  have hf : fi m = nI (kd m 0) := (ht.2.2.2.2 m hm).2.2.2.2.1.2 hp
  have o7 : op m = 7 := ct_op ht hm ho
  have hfu := hk.1.2.1
  rcases Nat.lt_or_ge q fu with hq | hq
  · obtain ⟨φ', hφ, hk'⟩ := cr_beat (P' := ch_ P s (T s h + 4 * (E m - kd m 0) + 3)) (d := 2) hk h7 hq rfl (by omega)
    refine ⟨_, _, _, 1, fun post K => x_bPush h7 hxh (by omega) (by omega) (ct_op ht hm ho) (by omega) (by omega) (fun _ => rfl) (fun h => absurd o7 h) K, xs_a (fun post K => x_adv1 h7 pk_us (by omega) pk_us (x_con7 h7 (by omega) pk_us (by omega) o7 (x_round1 h7 (by omega) pk_us (by omega) hq (by omega) K))), fun post K => y_eWh1 (by omega) o7 hq (by omega) h7 hyt (by omega) K, ?_⟩
    have := cr_new (e := e) (k1 := K s h) (q' := q + 1) (d := 2) (xN := xN) (xL := xL) (xp := xp) (xl := xl) (xo := xo) (yN := yN) (yi := yi) (yo := yo) (yp := yp) (ec := ec) (en := en) (ft := ft) (cr := cr) (gv := gv) (gt := gt) ht h1 hK (by rw [if_neg (by omega)]; rfl) hK hz hm (by omega) hp he (fun c hc => hD c (ct_in0 hc (by omega))) hlev hx hy hφ hk'
    rw [show h + K s h - cz_ s + 1 = h + 1 + K s h - cz_ s by omega, up_same, up_same, hf]
    exact this
  · obtain rfl : q = fu := by have := hk.1.1; omega
    have hφ2 : 2 ≤ φ := by have h3 := sm_le (f := P) 7 h7; have h4 := hk.1.2.2.1; omega
    exact ⟨_, _, _, 1, fun post K => x_bPush h7 hxh (by omega) (by omega) (ct_op ht hm ho) (by omega) (by omega) (fun _ => rfl) (fun h => absurd o7 h) K, xs_a (fun post K => x_adv1 h7 pk_us (by omega) pk_us (x_con7 h7 (by omega) pk_us (by omega) o7 (x_round0 (by omega) K))), fun post K => y_eWh0 (by omega) o7 K, cr_fuel h1.1.1 h1.1.2.1 hk hφ2⟩
/-- a node is evaluated -/
theorem ev_all {m e : Nat} (ht : (ct_all op a b fi nx pa N oc pc E lv kd SC)) (hyp : ∀ n, n < N → xp n = nI (pc n) ∧ yp n = nI (pc n)) (h1 : (cc_C N oc pc E lv kd a b SC F C V D K T fN fX fS fT fL yl ya ye yk P H dep xh xc yt yc fn fe gn ge vn vo vv wn wu wv xst xf xr yst yf yr Q k s h)) (hK : K s h ≤ dep) (hxh : xh s = nI h) (hyt : yt s = nI (h + K s h - cz_ s)) (hx : xc s = nI (K s h)) (hy : yc s = nI (K s h)) (hsh : 1 ≤ s → 1 ≤ h) (hk : (cr_K φ fu q w F C P pv ou)) (hm : m < N) (he : e ≤ V) (hD : ∀ c, SC m c → D e c) (hlev : h + 1 + K s h ≤ 16 * K s h + lv m + cz_ s) (hP : T s h + 4 * (E m - m) ≤ P s) : ∃ u1 u2 v2 j, (∀ post : SX → Prop, post u1 → wpX_begin post ((nI dep), (nI fu), xN, xL, (nI F), (nI V), (nI C), (nI s), (-1), cr, ec, en, ft, (nI q), (nI w), op, a, b, xp, fi, xl, nx, xo, fn, fe, vn, vo, vv, xst, xf, xr, xh, xc, fN, fX, fS, fT, fL, pv) (nI m) (nI e)) ∧ xs_ j u1 u2 ∧ (∀ post : SY → Prop, post v2 → wpY_evaluate post ((nI dep), (nI fu), yN, yi, yo, (nI V), (nI F), (nI C), (nI s), ft, (nI q), 0, 0, (-1), (nI w), 1, 0, gv, gt, op, a, b, pa, fi, nx, yp, wn, wu, gn, ge, wv, yl, ya, ye, yk, yt, yc, yst, yf, yr, ou) (nI m) (nI e - 1)) ∧ cr_T op a b fi nx pa N oc pc E lv kd SC dep fu xN xL xp xl xo yN yi yo yp φ (j + 1) u2 v2 := by
  have h21 := (ht.2.2.2.2 m hm).1.1
  have hmn := ct_mn' ht hm
  by_cases c1 : oc m = 20
  · exact ev_num ht hyp h1 hK hxh hyt hx hy hsh hk hm he hD hlev hP c1
  by_cases c2 : oc m = 21
  · exact ev_name ht hyp h1 hK hxh hyt hx hy hsh hk hm he hD hlev hP c2
  by_cases c3 : oc m = 10
  · exact ev_fun ht hyp h1 hK hxh hyt hx hy hsh hk hm he hD hlev hP c3
  by_cases c4 : oc m = 19
  · exact ev_fault ht hyp h1 hK hxh hyt hx hy hsh hk hm he hD hlev hP c4
  by_cases c5 : oc m = 7
  · exact ev_while ht hyp h1 hK hxh hyt hx hy hsh hk hm he hD hlev hP c5
  by_cases c6 : pc m = 0
  · by_cases c7 : oc m = 6
    · exact ev_seq0 ht hyp h1 hK hxh hyt hx hy hsh hk hm he hD hlev hP c7 c6
    · exfalso
      have h0 : 1 ≤ ct_mn (oc m) := by
        unfold ct_mn ct_mx
        split
        · omega
        · split
          · omega
          · split
            · omega
            · split
              · omega
              · split
                · omega
                · split
                  · omega
                  · split <;> omega
      omega
  · exact ev_push ht hyp h1 hK hxh hyt hx hy hsh hk hm he hD hlev hP (by omega) c3 c5 (by omega)
end
