section
variable {xd xg xN xL xF xV xC xs ph : Int32} {cr : Int64} {ec en ft bt pr : Int32} {op a b xp fi xl nx xo fn fe vn vo : Nat → Int32} {vv : Nat → Int64} {xst xf xr xh xc fN fX fS fT : Nat → Int32} {fL pv : Nat → Int64}
variable {post : SX → Prop}
theorem x_c5 {s h m : Nat} (hs : s < 7) (hb : h < 128) (hn : fN (s * 128 + h) = nI m) (hm : m < 96) (ho : op m = 5) (K : wpX_finish post (xd, xg, xN, xL, xF, xV, xC, (nI s), ph, cr, ec, en, ft, bt, pr, op, a, b, xp, fi, xl, nx, xo, fn, fe, vn, vo, vv, xst, xf, xr, xh, xc, fN, fX, fS, fT, fL, pv) (fL ((s * 128 + h) * 4))) : wpX_conclude post (xd, xg, xN, xL, xF, xV, xC, (nI s), ph, cr, ec, en, ft, bt, pr, op, a, b, xp, fi, xl, nx, xo, fn, fe, vn, vo, vv, xst, xf, xr, xh, xc, fN, fX, fS, fT, fL, pv) (nI (s * 128 + h)) := by
  have ei := nc_ (n := s * 128 + h) (by omega)
  have e4 := nc_ (n := (s * 128 + h) * 4) (by omega)
  have em := nc_ (n := m) (by omega)
  have wm := vi_ (n := m) (N := 96) hm (by omega)
  have wi := vi_ (n := s * 128 + h) (N := 896) (by omega) (by omega)
  have w4 : vp_in (nI (s * 128 + h) * 4) 3584 := by rw [ix_4]; exact vi_ (by omega) (by omega)
  refine ⟨wi, ?_, nm_r (e' := op m) (by rw [ei, hn, em]) ⟨w4, nm_r (e' := fL ((s * 128 + h) * 4)) (by rw [ix_4, e4]) ?_⟩⟩
  · rw [ei, hn]; exact wm
  · rw [ho]
    exact (br_f (by decide) (br_f (by decide) (br_f (by decide) (br_t rfl K))))
theorem x_c8 {s h m : Nat} (hs : s < 7) (hb : h < 128) (hn : fN (s * 128 + h) = nI m) (hm : m < 96) (ho : op m = 8) (K : wpX_finish post (xd, xg, xN, xL, xF, xV, xC, (nI s), ph, cr, ec, en, ft, bt, pr, op, a, b, xp, fi, xl, nx, xo, fn, fe, vn, vo, vv, xst, xf, xr, xh, xc, fN, fX, fS, fT, fL, pv) (fL ((s * 128 + h) * 4))) : wpX_conclude post (xd, xg, xN, xL, xF, xV, xC, (nI s), ph, cr, ec, en, ft, bt, pr, op, a, b, xp, fi, xl, nx, xo, fn, fe, vn, vo, vv, xst, xf, xr, xh, xc, fN, fX, fS, fT, fL, pv) (nI (s * 128 + h)) := by
  have ei := nc_ (n := s * 128 + h) (by omega)
  have e4 := nc_ (n := (s * 128 + h) * 4) (by omega)
  have em := nc_ (n := m) (by omega)
  have wm := vi_ (n := m) (N := 96) hm (by omega)
  have wi := vi_ (n := s * 128 + h) (N := 896) (by omega) (by omega)
  have w4 : vp_in (nI (s * 128 + h) * 4) 3584 := by rw [ix_4]; exact vi_ (by omega) (by omega)
  refine ⟨wi, ?_, nm_r (e' := op m) (by rw [ei, hn, em]) ⟨w4, nm_r (e' := fL ((s * 128 + h) * 4)) (by rw [ix_4, e4]) ?_⟩⟩
  · rw [ei, hn]; exact wm
  · rw [ho]
    exact (br_f (by decide) (br_f (by decide) (br_f (by decide) (br_f (by decide) (br_f (by decide) (br_f (by decide) (br_t rfl K)))))))
theorem x_c9 {s h m : Nat} (hs : s < 7) (hb : h < 128) (hn : fN (s * 128 + h) = nI m) (hm : m < 96) (ho : op m = 9) (K : wpX_concludeSet post (xd, xg, xN, xL, xF, xV, xC, (nI s), ph, cr, ec, en, ft, bt, pr, op, a, b, xp, fi, xl, nx, xo, fn, fe, vn, vo, vv, xst, xf, xr, xh, xc, fN, fX, fS, fT, fL, pv) (nI (s * 128 + h)) (fL ((s * 128 + h) * 4))) : wpX_conclude post (xd, xg, xN, xL, xF, xV, xC, (nI s), ph, cr, ec, en, ft, bt, pr, op, a, b, xp, fi, xl, nx, xo, fn, fe, vn, vo, vv, xst, xf, xr, xh, xc, fN, fX, fS, fT, fL, pv) (nI (s * 128 + h)) := by
  have ei := nc_ (n := s * 128 + h) (by omega)
  have e4 := nc_ (n := (s * 128 + h) * 4) (by omega)
  have em := nc_ (n := m) (by omega)
  have wm := vi_ (n := m) (N := 96) hm (by omega)
  have wi := vi_ (n := s * 128 + h) (N := 896) (by omega) (by omega)
  have w4 : vp_in (nI (s * 128 + h) * 4) 3584 := by rw [ix_4]; exact vi_ (by omega) (by omega)
  refine ⟨wi, ?_, nm_r (e' := op m) (by rw [ei, hn, em]) ⟨w4, nm_r (e' := fL ((s * 128 + h) * 4)) (by rw [ix_4, e4]) ?_⟩⟩
  · rw [ei, hn]; exact wm
  · rw [ho]
    exact (br_f (by decide) (br_f (by decide) (br_f (by decide) (br_f (by decide) (br_f (by decide) (br_f (by decide) (br_f (by decide) (br_t rfl K))))))))
theorem x_c11 {s h m : Nat} (hs : s < 7) (hb : h < 128) (hn : fN (s * 128 + h) = nI m) (hm : m < 96) (ho : op m = 11) (K : wpX_concludeCall post (xd, xg, xN, xL, xF, xV, xC, (nI s), ph, cr, ec, en, ft, bt, pr, op, a, b, xp, fi, xl, nx, xo, fn, fe, vn, vo, vv, xst, xf, xr, xh, xc, fN, fX, fS, fT, fL, pv) (nI (s * 128 + h)) (fL ((s * 128 + h) * 4))) : wpX_conclude post (xd, xg, xN, xL, xF, xV, xC, (nI s), ph, cr, ec, en, ft, bt, pr, op, a, b, xp, fi, xl, nx, xo, fn, fe, vn, vo, vv, xst, xf, xr, xh, xc, fN, fX, fS, fT, fL, pv) (nI (s * 128 + h)) := by
  have ei := nc_ (n := s * 128 + h) (by omega)
  have e4 := nc_ (n := (s * 128 + h) * 4) (by omega)
  have em := nc_ (n := m) (by omega)
  have wm := vi_ (n := m) (N := 96) hm (by omega)
  have wi := vi_ (n := s * 128 + h) (N := 896) (by omega) (by omega)
  have w4 : vp_in (nI (s * 128 + h) * 4) 3584 := by rw [ix_4]; exact vi_ (by omega) (by omega)
  refine ⟨wi, ?_, nm_r (e' := op m) (by rw [ei, hn, em]) ⟨w4, nm_r (e' := fL ((s * 128 + h) * 4)) (by rw [ix_4, e4]) ?_⟩⟩
  · rw [ei, hn]; exact wm
  · rw [ho]
    exact (br_f (by decide) (br_f (by decide) (br_f (by decide) (br_f (by decide) (br_f (by decide) (br_f (by decide) (br_f (by decide) (br_f (by decide) (br_f (by decide) (br_t rfl K))))))))))
theorem x_c13 {s h m : Nat} (hs : s < 7) (hb : h < 128) (hn : fN (s * 128 + h) = nI m) (hm : m < 96) (ho : op m = 13) (K : wpX_concludeError post (xd, xg, xN, xL, xF, xV, xC, (nI s), ph, cr, ec, en, ft, bt, pr, op, a, b, xp, fi, xl, nx, xo, fn, fe, vn, vo, vv, xst, xf, xr, xh, xc, fN, fX, fS, fT, fL, pv) (nI (s * 128 + h)) (fL ((s * 128 + h) * 4))) : wpX_conclude post (xd, xg, xN, xL, xF, xV, xC, (nI s), ph, cr, ec, en, ft, bt, pr, op, a, b, xp, fi, xl, nx, xo, fn, fe, vn, vo, vv, xst, xf, xr, xh, xc, fN, fX, fS, fT, fL, pv) (nI (s * 128 + h)) := by
  have ei := nc_ (n := s * 128 + h) (by omega)
  have e4 := nc_ (n := (s * 128 + h) * 4) (by omega)
  have em := nc_ (n := m) (by omega)
  have wm := vi_ (n := m) (N := 96) hm (by omega)
  have wi := vi_ (n := s * 128 + h) (N := 896) (by omega) (by omega)
  have w4 : vp_in (nI (s * 128 + h) * 4) 3584 := by rw [ix_4]; exact vi_ (by omega) (by omega)
  refine ⟨wi, ?_, nm_r (e' := op m) (by rw [ei, hn, em]) ⟨w4, nm_r (e' := fL ((s * 128 + h) * 4)) (by rw [ix_4, e4]) ?_⟩⟩
  · rw [ei, hn]; exact wm
  · rw [ho]
    exact (br_f (by decide) (br_f (by decide) (br_f (by decide) (br_f (by decide) (br_f (by decide) (br_f (by decide) (br_f (by decide) (br_f (by decide) (br_f (by decide) (br_f (by decide) (br_f (by decide) (br_t rfl K))))))))))))
theorem x_c15 {s h m : Nat} (hs : s < 7) (hb : h < 128) (hn : fN (s * 128 + h) = nI m) (hm : m < 96) (ho : op m = 15) (K : wpX_concludeCreate post (xd, xg, xN, xL, xF, xV, xC, (nI s), ph, cr, ec, en, ft, bt, pr, op, a, b, xp, fi, xl, nx, xo, fn, fe, vn, vo, vv, xst, xf, xr, xh, xc, fN, fX, fS, fT, fL, pv) (nI (s * 128 + h)) (fL ((s * 128 + h) * 4))) : wpX_conclude post (xd, xg, xN, xL, xF, xV, xC, (nI s), ph, cr, ec, en, ft, bt, pr, op, a, b, xp, fi, xl, nx, xo, fn, fe, vn, vo, vv, xst, xf, xr, xh, xc, fN, fX, fS, fT, fL, pv) (nI (s * 128 + h)) := by
  have ei := nc_ (n := s * 128 + h) (by omega)
  have e4 := nc_ (n := (s * 128 + h) * 4) (by omega)
  have em := nc_ (n := m) (by omega)
  have wm := vi_ (n := m) (N := 96) hm (by omega)
  have wi := vi_ (n := s * 128 + h) (N := 896) (by omega) (by omega)
  have w4 : vp_in (nI (s * 128 + h) * 4) 3584 := by rw [ix_4]; exact vi_ (by omega) (by omega)
  refine ⟨wi, ?_, nm_r (e' := op m) (by rw [ei, hn, em]) ⟨w4, nm_r (e' := fL ((s * 128 + h) * 4)) (by rw [ix_4, e4]) ?_⟩⟩
  · rw [ei, hn]; exact wm
  · rw [ho]
    exact (br_f (by decide) (br_f (by decide) (br_f (by decide) (br_f (by decide) (br_f (by decide) (br_f (by decide) (br_f (by decide) (br_f (by decide) (br_f (by decide) (br_f (by decide) (br_f (by decide) (br_f (by decide) (br_f (by decide) (br_t rfl K))))))))))))))
theorem x_c16 {s h m : Nat} (hs : s < 7) (hb : h < 128) (hn : fN (s * 128 + h) = nI m) (hm : m < 96) (ho : op m = 16) (K : wpX_concludeResume post (xd, xg, xN, xL, xF, xV, xC, (nI s), ph, cr, ec, en, ft, bt, pr, op, a, b, xp, fi, xl, nx, xo, fn, fe, vn, vo, vv, xst, xf, xr, xh, xc, fN, fX, fS, fT, fL, pv) (nI (s * 128 + h)) (fL ((s * 128 + h) * 4))) : wpX_conclude post (xd, xg, xN, xL, xF, xV, xC, (nI s), ph, cr, ec, en, ft, bt, pr, op, a, b, xp, fi, xl, nx, xo, fn, fe, vn, vo, vv, xst, xf, xr, xh, xc, fN, fX, fS, fT, fL, pv) (nI (s * 128 + h)) := by
  have ei := nc_ (n := s * 128 + h) (by omega)
  have e4 := nc_ (n := (s * 128 + h) * 4) (by omega)
  have em := nc_ (n := m) (by omega)
  have wm := vi_ (n := m) (N := 96) hm (by omega)
  have wi := vi_ (n := s * 128 + h) (N := 896) (by omega) (by omega)
  have w4 : vp_in (nI (s * 128 + h) * 4) 3584 := by rw [ix_4]; exact vi_ (by omega) (by omega)
  refine ⟨wi, ?_, nm_r (e' := op m) (by rw [ei, hn, em]) ⟨w4, nm_r (e' := fL ((s * 128 + h) * 4)) (by rw [ix_4, e4]) ?_⟩⟩
  · rw [ei, hn]; exact wm
  · rw [ho]
    exact (br_f (by decide) (br_f (by decide) (br_f (by decide) (br_f (by decide) (br_f (by decide) (br_f (by decide) (br_f (by decide) (br_f (by decide) (br_f (by decide) (br_f (by decide) (br_f (by decide) (br_f (by decide) (br_f (by decide) (br_f (by decide) (br_t rfl K)))))))))))))))
theorem x_c17 {s h m : Nat} (hs : s < 7) (hb : h < 128) (hn : fN (s * 128 + h) = nI m) (hm : m < 96) (ho : op m = 17) (K : wpX_concludeYield post (xd, xg, xN, xL, xF, xV, xC, (nI s), ph, cr, ec, en, ft, bt, pr, op, a, b, xp, fi, xl, nx, xo, fn, fe, vn, vo, vv, xst, xf, xr, xh, xc, fN, fX, fS, fT, fL, pv) (nI (s * 128 + h)) (fL ((s * 128 + h) * 4))) : wpX_conclude post (xd, xg, xN, xL, xF, xV, xC, (nI s), ph, cr, ec, en, ft, bt, pr, op, a, b, xp, fi, xl, nx, xo, fn, fe, vn, vo, vv, xst, xf, xr, xh, xc, fN, fX, fS, fT, fL, pv) (nI (s * 128 + h)) := by
  have ei := nc_ (n := s * 128 + h) (by omega)
  have e4 := nc_ (n := (s * 128 + h) * 4) (by omega)
  have em := nc_ (n := m) (by omega)
  have wm := vi_ (n := m) (N := 96) hm (by omega)
  have wi := vi_ (n := s * 128 + h) (N := 896) (by omega) (by omega)
  have w4 : vp_in (nI (s * 128 + h) * 4) 3584 := by rw [ix_4]; exact vi_ (by omega) (by omega)
  refine ⟨wi, ?_, nm_r (e' := op m) (by rw [ei, hn, em]) ⟨w4, nm_r (e' := fL ((s * 128 + h) * 4)) (by rw [ix_4, e4]) ?_⟩⟩
  · rw [ei, hn]; exact wm
  · rw [ho]
    exact (br_f (by decide) (br_f (by decide) (br_f (by decide) (br_f (by decide) (br_f (by decide) (br_f (by decide) (br_f (by decide) (br_f (by decide) (br_f (by decide) (br_f (by decide) (br_f (by decide) (br_f (by decide) (br_f (by decide) (br_f (by decide) (br_f (by decide) (br_t rfl K))))))))))))))))
theorem x_c18 {s h m : Nat} (hs : s < 7) (hb : h < 128) (hn : fN (s * 128 + h) = nI m) (hm : m < 96) (ho : op m = 18) (K : wpX_concludeStatus post (xd, xg, xN, xL, xF, xV, xC, (nI s), ph, cr, ec, en, ft, bt, pr, op, a, b, xp, fi, xl, nx, xo, fn, fe, vn, vo, vv, xst, xf, xr, xh, xc, fN, fX, fS, fT, fL, pv) (nI (s * 128 + h)) (fL ((s * 128 + h) * 4))) : wpX_conclude post (xd, xg, xN, xL, xF, xV, xC, (nI s), ph, cr, ec, en, ft, bt, pr, op, a, b, xp, fi, xl, nx, xo, fn, fe, vn, vo, vv, xst, xf, xr, xh, xc, fN, fX, fS, fT, fL, pv) (nI (s * 128 + h)) := by
  have ei := nc_ (n := s * 128 + h) (by omega)
  have e4 := nc_ (n := (s * 128 + h) * 4) (by omega)
  have em := nc_ (n := m) (by omega)
  have wm := vi_ (n := m) (N := 96) hm (by omega)
  have wi := vi_ (n := s * 128 + h) (N := 896) (by omega) (by omega)
  have w4 : vp_in (nI (s * 128 + h) * 4) 3584 := by rw [ix_4]; exact vi_ (by omega) (by omega)
  refine ⟨wi, ?_, nm_r (e' := op m) (by rw [ei, hn, em]) ⟨w4, nm_r (e' := fL ((s * 128 + h) * 4)) (by rw [ix_4, e4]) ?_⟩⟩
  · rw [ei, hn]; exact wm
  · rw [ho]
    exact (br_f (by decide) (br_f (by decide) (br_f (by decide) (br_f (by decide) (br_f (by decide) (br_f (by decide) (br_f (by decide) (br_f (by decide) (br_f (by decide) (br_f (by decide) (br_f (by decide) (br_f (by decide) (br_f (by decide) (br_f (by decide) (br_f (by decide) (br_f (by decide) (br_t rfl K)))))))))))))))))
theorem x_c12 {s h m : Nat} (hs : s < 7) (hb : h < 128) (hn : fN (s * 128 + h) = nI m) (hm : m < 96) (ho : op m = 12) (K : wpX_concludeReturn post (xd, xg, xN, xL, xF, xV, xC, (nI s), ph, cr, ec, en, ft, bt, pr, op, a, b, xp, fi, xl, nx, xo, fn, fe, vn, vo, vv, xst, xf, xr, xh, xc, fN, fX, fS, fT, fL, pv) (fL ((s * 128 + h) * 4))) : wpX_conclude post (xd, xg, xN, xL, xF, xV, xC, (nI s), ph, cr, ec, en, ft, bt, pr, op, a, b, xp, fi, xl, nx, xo, fn, fe, vn, vo, vv, xst, xf, xr, xh, xc, fN, fX, fS, fT, fL, pv) (nI (s * 128 + h)) := by
  have ei := nc_ (n := s * 128 + h) (by omega)
  have e4 := nc_ (n := (s * 128 + h) * 4) (by omega)
  have em := nc_ (n := m) (by omega)
  have wm := vi_ (n := m) (N := 96) hm (by omega)
  have wi := vi_ (n := s * 128 + h) (N := 896) (by omega) (by omega)
  have w4 : vp_in (nI (s * 128 + h) * 4) 3584 := by rw [ix_4]; exact vi_ (by omega) (by omega)
  refine ⟨wi, ?_, nm_r (e' := op m) (by rw [ei, hn, em]) ⟨w4, nm_r (e' := fL ((s * 128 + h) * 4)) (by rw [ix_4, e4]) ?_⟩⟩
  · rw [ei, hn]; exact wm
  · rw [ho]
    exact (br_f (by decide) (br_f (by decide) (br_f (by decide) (br_f (by decide) (br_f (by decide) (br_f (by decide) (br_f (by decide) (br_f (by decide) (br_f (by decide) (br_f (by decide) (br_t rfl K)))))))))))
theorem x_c14 {s h m : Nat} (hs : s < 7) (hb : h < 128) (hn : fN (s * 128 + h) = nI m) (hm : m < 96) (ho : op m = 14) (K : wpX_concludePrint post (xd, xg, xN, xL, xF, xV, xC, (nI s), ph, cr, ec, en, ft, bt, pr, op, a, b, xp, fi, xl, nx, xo, fn, fe, vn, vo, vv, xst, xf, xr, xh, xc, fN, fX, fS, fT, fL, pv) (fL ((s * 128 + h) * 4))) : wpX_conclude post (xd, xg, xN, xL, xF, xV, xC, (nI s), ph, cr, ec, en, ft, bt, pr, op, a, b, xp, fi, xl, nx, xo, fn, fe, vn, vo, vv, xst, xf, xr, xh, xc, fN, fX, fS, fT, fL, pv) (nI (s * 128 + h)) := by
  have ei := nc_ (n := s * 128 + h) (by omega)
  have e4 := nc_ (n := (s * 128 + h) * 4) (by omega)
  have em := nc_ (n := m) (by omega)
  have wm := vi_ (n := m) (N := 96) hm (by omega)
  have wi := vi_ (n := s * 128 + h) (N := 896) (by omega) (by omega)
  have w4 : vp_in (nI (s * 128 + h) * 4) 3584 := by rw [ix_4]; exact vi_ (by omega) (by omega)
  refine ⟨wi, ?_, nm_r (e' := op m) (by rw [ei, hn, em]) ⟨w4, nm_r (e' := fL ((s * 128 + h) * 4)) (by rw [ix_4, e4]) ?_⟩⟩
  · rw [ei, hn]; exact wm
  · rw [ho]
    exact (br_f (by decide) (br_f (by decide) (br_f (by decide) (br_f (by decide) (br_f (by decide) (br_f (by decide) (br_f (by decide) (br_f (by decide) (br_f (by decide) (br_f (by decide) (br_f (by decide) (br_f (by decide) (br_t rfl K)))))))))))))
theorem x_c10 {s h m : Nat} (hs : s < 7) (hb : h < 128) (hn : fN (s * 128 + h) = nI m) (hm : m < 96) (ho : op m = 10) {c : Nat} (hc : xc s = nI (c + 1)) (K : wpX_finish post (xd, xg, xN, xL, xF, xV, xC, (nI s), ph, cr, ec, en, ft, bt, pr, op, a, b, xp, fi, xl, nx, xo, fn, fe, vn, vo, vv, xst, xf, xr, xh, (upd xc s (nI c)), fN, fX, fS, fT, fL, pv) (fL ((s * 128 + h) * 4))) : wpX_conclude post (xd, xg, xN, xL, xF, xV, xC, (nI s), ph, cr, ec, en, ft, bt, pr, op, a, b, xp, fi, xl, nx, xo, fn, fe, vn, vo, vv, xst, xf, xr, xh, xc, fN, fX, fS, fT, fL, pv) (nI (s * 128 + h)) := by
  have ei := nc_ (n := s * 128 + h) (by omega)
  have e4 := nc_ (n := (s * 128 + h) * 4) (by omega)
  have em := nc_ (n := m) (by omega)
  have wm := vi_ (n := m) (N := 96) hm (by omega)
  have wi := vi_ (n := s * 128 + h) (N := 896) (by omega) (by omega)
  have w4 : vp_in (nI (s * 128 + h) * 4) 3584 := by rw [ix_4]; exact vi_ (by omega) (by omega)
  refine ⟨wi, ?_, nm_r (e' := op m) (by rw [ei, hn, em]) ⟨w4, nm_r (e' := fL ((s * 128 + h) * 4)) (by rw [ix_4, e4]) ?_⟩⟩
  · rw [ei, hn]; exact wm
  · rw [ho]
    exact (br_f (by decide) (br_f (by decide) (br_f (by decide) (br_f (by decide) (br_f (by decide) (br_f (by decide) (br_f (by decide) (br_f (by decide) (br_t rfl ⟨vi_ hs (by omega), vi_ hs (by omega), nm_r (e' := upd xc s (nI c)) (by rw [nc_ (by omega), hc, nI_pred]) K⟩)))))))))
theorem x_c4 {s h m : Nat} (hs : s < 7) (hb : h < 128) (hn : fN (s * 128 + h) = nI m) (hm : m < 96) (ho : op m = 4) (K : wpX_finishNumber post (xd, xg, xN, xL, xF, xV, xC, (nI s), ph, cr, ec, en, ft, bt, pr, op, a, b, xp, fi, xl, nx, xo, fn, fe, vn, vo, vv, xst, xf, xr, xh, xc, fN, fX, fS, fT, fL, pv) (if fL ((s * 128 + h) * 4) = fL ((s * 128 + h) * 4 + 1) then 1 else 0)) : wpX_conclude post (xd, xg, xN, xL, xF, xV, xC, (nI s), ph, cr, ec, en, ft, bt, pr, op, a, b, xp, fi, xl, nx, xo, fn, fe, vn, vo, vv, xst, xf, xr, xh, xc, fN, fX, fS, fT, fL, pv) (nI (s * 128 + h)) := by
  have ei := nc_ (n := s * 128 + h) (by omega)
  have e4 := nc_ (n := (s * 128 + h) * 4) (by omega)
  have em := nc_ (n := m) (by omega)
  have wm := vi_ (n := m) (N := 96) hm (by omega)
  have wi := vi_ (n := s * 128 + h) (N := 896) (by omega) (by omega)
  have w4 : vp_in (nI (s * 128 + h) * 4) 3584 := by rw [ix_4]; exact vi_ (by omega) (by omega)
  have e5 := nc_ (n := (s * 128 + h) * 4 + 1) (by omega)
  have w5 : vp_in (nI (s * 128 + h) * 4 + 1) 3584 := by rw [ix_41]; exact vi_ (by omega) (by omega)
  refine ⟨wi, ?_, nm_r (e' := op m) (by rw [ei, hn, em]) ⟨w4, nm_r (e' := fL ((s * 128 + h) * 4)) (by rw [ix_4, e4]) ?_⟩⟩
  · rw [ei, hn]; exact wm
  · rw [ho]
    refine br_f (by decide) (br_f (by decide) (br_t rfl ⟨w5, ?_⟩))
    rw [ix_41, e5]
    exact br_c (fun h1 => by rw [if_pos h1] at K; exact K) (fun h1 => by rw [if_neg h1] at K; exact K)
theorem x_c0 {s h m : Nat} (hs : s < 7) (hb : h < 128) (hn : fN (s * 128 + h) = nI m) (hm : m < 96) (ho : op m = 0) (K : wpX_concludeArithmetic post (xd, xg, xN, xL, xF, xV, xC, (nI s), ph, cr, ec, en, ft, bt, pr, op, a, b, xp, fi, xl, nx, xo, fn, fe, vn, vo, vv, xst, xf, xr, xh, xc, fN, fX, fS, fT, fL, pv) (nI (s * 128 + h)) (fL ((s * 128 + h) * 4))) : wpX_conclude post (xd, xg, xN, xL, xF, xV, xC, (nI s), ph, cr, ec, en, ft, bt, pr, op, a, b, xp, fi, xl, nx, xo, fn, fe, vn, vo, vv, xst, xf, xr, xh, xc, fN, fX, fS, fT, fL, pv) (nI (s * 128 + h)) := by
  have ei := nc_ (n := s * 128 + h) (by omega)
  have e4 := nc_ (n := (s * 128 + h) * 4) (by omega)
  have em := nc_ (n := m) (by omega)
  have wm := vi_ (n := m) (N := 96) hm (by omega)
  have wi := vi_ (n := s * 128 + h) (N := 896) (by omega) (by omega)
  have w4 : vp_in (nI (s * 128 + h) * 4) 3584 := by rw [ix_4]; exact vi_ (by omega) (by omega)
  refine ⟨wi, ?_, nm_r (e' := op m) (by rw [ei, hn, em]) ⟨w4, nm_r (e' := fL ((s * 128 + h) * 4)) (by rw [ix_4, e4]) ?_⟩⟩
  · rw [ei, hn]; exact wm
  · rw [ho]
    exact br_t (by decide) K
theorem x_c1 {s h m : Nat} (hs : s < 7) (hb : h < 128) (hn : fN (s * 128 + h) = nI m) (hm : m < 96) (ho : op m = 1) (K : wpX_concludeArithmetic post (xd, xg, xN, xL, xF, xV, xC, (nI s), ph, cr, ec, en, ft, bt, pr, op, a, b, xp, fi, xl, nx, xo, fn, fe, vn, vo, vv, xst, xf, xr, xh, xc, fN, fX, fS, fT, fL, pv) (nI (s * 128 + h)) (fL ((s * 128 + h) * 4))) : wpX_conclude post (xd, xg, xN, xL, xF, xV, xC, (nI s), ph, cr, ec, en, ft, bt, pr, op, a, b, xp, fi, xl, nx, xo, fn, fe, vn, vo, vv, xst, xf, xr, xh, xc, fN, fX, fS, fT, fL, pv) (nI (s * 128 + h)) := by
  have ei := nc_ (n := s * 128 + h) (by omega)
  have e4 := nc_ (n := (s * 128 + h) * 4) (by omega)
  have em := nc_ (n := m) (by omega)
  have wm := vi_ (n := m) (N := 96) hm (by omega)
  have wi := vi_ (n := s * 128 + h) (N := 896) (by omega) (by omega)
  have w4 : vp_in (nI (s * 128 + h) * 4) 3584 := by rw [ix_4]; exact vi_ (by omega) (by omega)
  refine ⟨wi, ?_, nm_r (e' := op m) (by rw [ei, hn, em]) ⟨w4, nm_r (e' := fL ((s * 128 + h) * 4)) (by rw [ix_4, e4]) ?_⟩⟩
  · rw [ei, hn]; exact wm
  · rw [ho]
    exact br_t (by decide) K
theorem x_c2 {s h m : Nat} (hs : s < 7) (hb : h < 128) (hn : fN (s * 128 + h) = nI m) (hm : m < 96) (ho : op m = 2) (K : wpX_concludeArithmetic post (xd, xg, xN, xL, xF, xV, xC, (nI s), ph, cr, ec, en, ft, bt, pr, op, a, b, xp, fi, xl, nx, xo, fn, fe, vn, vo, vv, xst, xf, xr, xh, xc, fN, fX, fS, fT, fL, pv) (nI (s * 128 + h)) (fL ((s * 128 + h) * 4))) : wpX_conclude post (xd, xg, xN, xL, xF, xV, xC, (nI s), ph, cr, ec, en, ft, bt, pr, op, a, b, xp, fi, xl, nx, xo, fn, fe, vn, vo, vv, xst, xf, xr, xh, xc, fN, fX, fS, fT, fL, pv) (nI (s * 128 + h)) := by
  have ei := nc_ (n := s * 128 + h) (by omega)
  have e4 := nc_ (n := (s * 128 + h) * 4) (by omega)
  have em := nc_ (n := m) (by omega)
  have wm := vi_ (n := m) (N := 96) hm (by omega)
  have wi := vi_ (n := s * 128 + h) (N := 896) (by omega) (by omega)
  have w4 : vp_in (nI (s * 128 + h) * 4) 3584 := by rw [ix_4]; exact vi_ (by omega) (by omega)
  refine ⟨wi, ?_, nm_r (e' := op m) (by rw [ei, hn, em]) ⟨w4, nm_r (e' := fL ((s * 128 + h) * 4)) (by rw [ix_4, e4]) ?_⟩⟩
  · rw [ei, hn]; exact wm
  · rw [ho]
    exact br_t (by decide) K
theorem x_c3 {s h m : Nat} (hs : s < 7) (hb : h < 128) (hn : fN (s * 128 + h) = nI m) (hm : m < 96) (ho : op m = 3) (K : wpX_concludeArithmetic post (xd, xg, xN, xL, xF, xV, xC, (nI s), ph, cr, ec, en, ft, bt, pr, op, a, b, xp, fi, xl, nx, xo, fn, fe, vn, vo, vv, xst, xf, xr, xh, xc, fN, fX, fS, fT, fL, pv) (nI (s * 128 + h)) (fL ((s * 128 + h) * 4))) : wpX_conclude post (xd, xg, xN, xL, xF, xV, xC, (nI s), ph, cr, ec, en, ft, bt, pr, op, a, b, xp, fi, xl, nx, xo, fn, fe, vn, vo, vv, xst, xf, xr, xh, xc, fN, fX, fS, fT, fL, pv) (nI (s * 128 + h)) := by
  have ei := nc_ (n := s * 128 + h) (by omega)
  have e4 := nc_ (n := (s * 128 + h) * 4) (by omega)
  have em := nc_ (n := m) (by omega)
  have wm := vi_ (n := m) (N := 96) hm (by omega)
  have wi := vi_ (n := s * 128 + h) (N := 896) (by omega) (by omega)
  have w4 : vp_in (nI (s * 128 + h) * 4) 3584 := by rw [ix_4]; exact vi_ (by omega) (by omega)
  refine ⟨wi, ?_, nm_r (e' := op m) (by rw [ei, hn, em]) ⟨w4, nm_r (e' := fL ((s * 128 + h) * 4)) (by rw [ix_4, e4]) ?_⟩⟩
  · rw [ei, hn]; exact wm
  · rw [ho]
    exact br_t (by decide) K
theorem x_del {s h : Nat} (hs : s < 7) (hb : h < 128) (hh : xh s = nI (h + 1)) (K : wpX_take post (xd, xg, xN, xL, xF, xV, xC, (nI s), (-1), cr, ec, en, ft, bt, pr, op, a, b, xp, fi, xl, nx, xo, fn, fe, vn, vo, vv, xst, xf, xr, xh, xc, fN, fX, fS, fT, fL, pv)) : wpX_deliver post (xd, xg, xN, xL, xF, xV, xC, (nI s), ph, cr, ec, en, ft, bt, pr, op, a, b, xp, fi, xl, nx, xo, fn, fe, vn, vo, vv, xst, xf, xr, xh, xc, fN, fX, fS, fT, fL, pv) := by
  have e := nc_ (n := s) (by omega)
  refine ⟨vi_ hs (by omega), br_f ?_ K⟩
  rw [e, hh]; exact nI_nle (by omega) (by omega)
theorem x_takeD {s h m o t : Nat} (hs : s < 7) (hb : h < 128) (hh : xh s = nI (h + 1)) (hn : fN (s * 128 + h) = nI m) (hm : m < 96) (ho : op m = nI o) (ho2 : o ≤ 21) (ht : fT (s * 128 + h) = nI t) (hd : o < 5 ∨ 10 < o ∨ o = 9) (h4 : t < 4) (K : post (xd, xg, xN, xL, xF, xV, xC, (nI s), ph, cr, ec, en, ft, bt, pr, op, a, b, xp, fi, xl, nx, xo, fn, fe, vn, vo, vv, xst, xf, xr, xh, xc, fN, fX, fS, (upd fT (s * 128 + h) (nI (t + 1))), (vp_updL fL ((s * 128 + h) * 4 + t) cr), pv)) : wpX_take post (xd, xg, xN, xL, xF, xV, xC, (nI s), ph, cr, ec, en, ft, bt, pr, op, a, b, xp, fi, xl, nx, xo, fn, fe, vn, vo, vv, xst, xf, xr, xh, xc, fN, fX, fS, fT, fL, pv) := by
  have ei := nc_ (n := s * 128 + h) (by omega)
  have e4 := nc_ (n := (s * 128 + h) * 4) (by omega)
  have em := nc_ (n := m) (by omega)
  have wm := vi_ (n := m) (N := 96) hm (by omega)
  have wi := vi_ (n := s * 128 + h) (N := 896) (by omega) (by omega)
  have w4 : vp_in (nI (s * 128 + h) * 4) 3584 := by rw [ix_4]; exact vi_ (by omega) (by omega)
  unfold wpX_take
  dsimp only
  refine x_top hs hh ?_
  refine ⟨wi, nm_r (e' := nI t) (by rw [ei, ht]) ⟨wi, wi, nm_r (e' := upd fT (s * 128 + h) (nI (t + 1))) (by rw [ei, ht, nI_1]) (nm_r (e' := nI ((s * 128 + h) * 4)) (ix_4 _) ⟨wi, ?_, nm_r (e' := nI o) (by rw [ei, hn, em, ho]) ?_⟩)⟩⟩
  · rw [ei, hn]; exact wm
  · have k2 : ∀ (P : Prop), P → (vp_in (nI ((s * 128 + h) * 4) + nI t) 3584 ∧ P) := fun P h => ⟨by rw [nI_add]; exact vi_ (by omega) (by omega), h⟩
    have e5 := nc_ (n := (s * 128 + h) * 4 + t) (by omega)
    have hD : ∀ y : Nat → Int64, y = vp_updL fL (nI ((s * 128 + h) * 4) + nI t).toNatClampNeg cr → y = vp_updL fL ((s * 128 + h) * 4 + t) cr := fun y hy => by rw [hy, nI_add, e5]
    rcases hd with h5 | h5 | h5
    · refine br_t (nI_lt (b := 5) h5 (by omega)) (k2 _ (fun y hy => ?_))
      rw [hD y hy]; exact K
    · refine br_f (nI_nlt (b := 5) (by omega) (by omega)) (br_t (nI_lt (a := 10) h5 (by omega)) (k2 _ (fun y hy => ?_)))
      rw [hD y hy]; exact K
    · subst h5
      refine br_f (by decide) (br_f (by decide) (br_f (by decide) (br_f (by decide) (br_f (by decide) (br_f (by decide) (br_t rfl (k2 _ (fun y hy => ?_))))))))
      rw [hD y hy]; exact K
theorem x_take6 {s h m o t : Nat} (hs : s < 7) (hb : h < 128) (hh : xh s = nI (h + 1)) (hn : fN (s * 128 + h) = nI m) (hm : m < 96) (ho : op m = nI o) (ho2 : o ≤ 21) (ht : fT (s * 128 + h) = nI t) (hd : o = 6) (K : post (xd, xg, xN, xL, xF, xV, xC, (nI s), ph, cr, ec, en, ft, bt, pr, op, a, b, xp, fi, xl, nx, xo, fn, fe, vn, vo, vv, xst, xf, xr, xh, xc, fN, fX, fS, (upd fT (s * 128 + h) (nI (t + 1))), (vp_updL fL ((s * 128 + h) * 4) cr), pv)) : wpX_take post (xd, xg, xN, xL, xF, xV, xC, (nI s), ph, cr, ec, en, ft, bt, pr, op, a, b, xp, fi, xl, nx, xo, fn, fe, vn, vo, vv, xst, xf, xr, xh, xc, fN, fX, fS, fT, fL, pv) := by
  have ei := nc_ (n := s * 128 + h) (by omega)
  have e4 := nc_ (n := (s * 128 + h) * 4) (by omega)
  have em := nc_ (n := m) (by omega)
  have wm := vi_ (n := m) (N := 96) hm (by omega)
  have wi := vi_ (n := s * 128 + h) (N := 896) (by omega) (by omega)
  have w4 : vp_in (nI (s * 128 + h) * 4) 3584 := by rw [ix_4]; exact vi_ (by omega) (by omega)
  unfold wpX_take
  dsimp only
  refine x_top hs hh ?_
  refine ⟨wi, nm_r (e' := nI t) (by rw [ei, ht]) ⟨wi, wi, nm_r (e' := upd fT (s * 128 + h) (nI (t + 1))) (by rw [ei, ht, nI_1]) (nm_r (e' := nI ((s * 128 + h) * 4)) (ix_4 _) ⟨wi, ?_, nm_r (e' := nI o) (by rw [ei, hn, em, ho]) ?_⟩)⟩⟩
  · rw [ei, hn]; exact wm
  · subst hd
    exact br_f (by decide) (br_f (by decide) (br_f (by decide) (br_t rfl ⟨vi_ (by omega) (by omega), nm_r (e' := vp_updL fL ((s * 128 + h) * 4) cr) (by rw [e4]) K⟩)))
theorem x_take10 {s h m o t : Nat} (hs : s < 7) (hb : h < 128) (hh : xh s = nI (h + 1)) (hn : fN (s * 128 + h) = nI m) (hm : m < 96) (ho : op m = nI o) (ho2 : o ≤ 21) (ht : fT (s * 128 + h) = nI t) (hd : o = 10) (K : post (xd, xg, xN, xL, xF, xV, xC, (nI s), ph, cr, ec, en, ft, bt, pr, op, a, b, xp, fi, xl, nx, xo, fn, fe, vn, vo, vv, xst, xf, xr, xh, xc, fN, fX, fS, (upd fT (s * 128 + h) (nI (t + 1))), (vp_updL fL ((s * 128 + h) * 4) cr), pv)) : wpX_take post (xd, xg, xN, xL, xF, xV, xC, (nI s), ph, cr, ec, en, ft, bt, pr, op, a, b, xp, fi, xl, nx, xo, fn, fe, vn, vo, vv, xst, xf, xr, xh, xc, fN, fX, fS, fT, fL, pv) := by
  have ei := nc_ (n := s * 128 + h) (by omega)
  have e4 := nc_ (n := (s * 128 + h) * 4) (by omega)
  have em := nc_ (n := m) (by omega)
  have wm := vi_ (n := m) (N := 96) hm (by omega)
  have wi := vi_ (n := s * 128 + h) (N := 896) (by omega) (by omega)
  have w4 : vp_in (nI (s * 128 + h) * 4) 3584 := by rw [ix_4]; exact vi_ (by omega) (by omega)
  unfold wpX_take
  dsimp only
  refine x_top hs hh ?_
  refine ⟨wi, nm_r (e' := nI t) (by rw [ei, ht]) ⟨wi, wi, nm_r (e' := upd fT (s * 128 + h) (nI (t + 1))) (by rw [ei, ht, nI_1]) (nm_r (e' := nI ((s * 128 + h) * 4)) (ix_4 _) ⟨wi, ?_, nm_r (e' := nI o) (by rw [ei, hn, em, ho]) ?_⟩)⟩⟩
  · rw [ei, hn]; exact wm
  · subst hd
    exact br_f (by decide) (br_f (by decide) (br_f (by decide) (br_f (by decide) (br_f (by decide) (br_f (by decide) (br_f (by decide) (br_t rfl ⟨vi_ (by omega) (by omega), nm_r (e' := vp_updL fL ((s * 128 + h) * 4) cr) (by rw [e4]) K⟩)))))))
theorem x_take5 {s h m o t : Nat} (hs : s < 7) (hb : h < 128) (hh : xh s = nI (h + 1)) (hn : fN (s * 128 + h) = nI m) (hm : m < 96) (ho : op m = nI o) (ho2 : o ≤ 21) (ht : fT (s * 128 + h) = nI t) (hd : o = 5) (K : wpX_takeInIf post (xd, xg, xN, xL, xF, xV, xC, (nI s), ph, cr, ec, en, ft, bt, pr, op, a, b, xp, fi, xl, nx, xo, fn, fe, vn, vo, vv, xst, xf, xr, xh, xc, fN, fX, fS, (upd fT (s * 128 + h) (nI (t + 1))), fL, pv) (nI (s * 128 + h)) (nI t)) : wpX_take post (xd, xg, xN, xL, xF, xV, xC, (nI s), ph, cr, ec, en, ft, bt, pr, op, a, b, xp, fi, xl, nx, xo, fn, fe, vn, vo, vv, xst, xf, xr, xh, xc, fN, fX, fS, fT, fL, pv) := by
  have ei := nc_ (n := s * 128 + h) (by omega)
  have e4 := nc_ (n := (s * 128 + h) * 4) (by omega)
  have em := nc_ (n := m) (by omega)
  have wm := vi_ (n := m) (N := 96) hm (by omega)
  have wi := vi_ (n := s * 128 + h) (N := 896) (by omega) (by omega)
  have w4 : vp_in (nI (s * 128 + h) * 4) 3584 := by rw [ix_4]; exact vi_ (by omega) (by omega)
  unfold wpX_take
  dsimp only
  refine x_top hs hh ?_
  refine ⟨wi, nm_r (e' := nI t) (by rw [ei, ht]) ⟨wi, wi, nm_r (e' := upd fT (s * 128 + h) (nI (t + 1))) (by rw [ei, ht, nI_1]) (nm_r (e' := nI ((s * 128 + h) * 4)) (ix_4 _) ⟨wi, ?_, nm_r (e' := nI o) (by rw [ei, hn, em, ho]) ?_⟩)⟩⟩
  · rw [ei, hn]; exact wm
  · subst hd
    exact br_f (by decide) (br_f (by decide) (br_t rfl K))
theorem x_take8 {s h m o t : Nat} (hs : s < 7) (hb : h < 128) (hh : xh s = nI (h + 1)) (hn : fN (s * 128 + h) = nI m) (hm : m < 96) (ho : op m = nI o) (ho2 : o ≤ 21) (ht : fT (s * 128 + h) = nI t) (hd : o = 8) (K : wpX_takeInLocal post (xd, xg, xN, xL, xF, xV, xC, (nI s), ph, cr, ec, en, ft, bt, pr, op, a, b, xp, fi, xl, nx, xo, fn, fe, vn, vo, vv, xst, xf, xr, xh, xc, fN, fX, fS, (upd fT (s * 128 + h) (nI (t + 1))), fL, pv) (nI (s * 128 + h)) (nI t)) : wpX_take post (xd, xg, xN, xL, xF, xV, xC, (nI s), ph, cr, ec, en, ft, bt, pr, op, a, b, xp, fi, xl, nx, xo, fn, fe, vn, vo, vv, xst, xf, xr, xh, xc, fN, fX, fS, fT, fL, pv) := by
  have ei := nc_ (n := s * 128 + h) (by omega)
  have e4 := nc_ (n := (s * 128 + h) * 4) (by omega)
  have em := nc_ (n := m) (by omega)
  have wm := vi_ (n := m) (N := 96) hm (by omega)
  have wi := vi_ (n := s * 128 + h) (N := 896) (by omega) (by omega)
  have w4 : vp_in (nI (s * 128 + h) * 4) 3584 := by rw [ix_4]; exact vi_ (by omega) (by omega)
  unfold wpX_take
  dsimp only
  refine x_top hs hh ?_
  refine ⟨wi, nm_r (e' := nI t) (by rw [ei, ht]) ⟨wi, wi, nm_r (e' := upd fT (s * 128 + h) (nI (t + 1))) (by rw [ei, ht, nI_1]) (nm_r (e' := nI ((s * 128 + h) * 4)) (ix_4 _) ⟨wi, ?_, nm_r (e' := nI o) (by rw [ei, hn, em, ho]) ?_⟩)⟩⟩
  · rw [ei, hn]; exact wm
  · subst hd
    exact br_f (by decide) (br_f (by decide) (br_f (by decide) (br_f (by decide) (br_f (by decide) (br_t rfl K)))))
theorem x_take7a {s h m o t : Nat} (hs : s < 7) (hb : h < 128) (hh : xh s = nI (h + 1)) (hn : fN (s * 128 + h) = nI m) (hm : m < 96) (ho : op m = nI o) (ho2 : o ≤ 21) (ht : fT (s * 128 + h) = nI t) (hd : o = 7) (h0 : t ≠ 0) (h9 : t < 1000) (K : post (xd, xg, xN, xL, xF, xV, xC, (nI s), ph, cr, ec, en, ft, bt, pr, op, a, b, xp, fi, xl, nx, xo, fn, fe, vn, vo, vv, xst, xf, xr, xh, xc, fN, fX, fS, (upd fT (s * 128 + h) (nI (t + 1))), fL, pv)) : wpX_take post (xd, xg, xN, xL, xF, xV, xC, (nI s), ph, cr, ec, en, ft, bt, pr, op, a, b, xp, fi, xl, nx, xo, fn, fe, vn, vo, vv, xst, xf, xr, xh, xc, fN, fX, fS, fT, fL, pv) := by
  have ei := nc_ (n := s * 128 + h) (by omega)
  have e4 := nc_ (n := (s * 128 + h) * 4) (by omega)
  have em := nc_ (n := m) (by omega)
  have wm := vi_ (n := m) (N := 96) hm (by omega)
  have wi := vi_ (n := s * 128 + h) (N := 896) (by omega) (by omega)
  have w4 : vp_in (nI (s * 128 + h) * 4) 3584 := by rw [ix_4]; exact vi_ (by omega) (by omega)
  unfold wpX_take
  dsimp only
  refine x_top hs hh ?_
  refine ⟨wi, nm_r (e' := nI t) (by rw [ei, ht]) ⟨wi, wi, nm_r (e' := upd fT (s * 128 + h) (nI (t + 1))) (by rw [ei, ht, nI_1]) (nm_r (e' := nI ((s * 128 + h) * 4)) (ix_4 _) ⟨wi, ?_, nm_r (e' := nI o) (by rw [ei, hn, em, ho]) ?_⟩)⟩⟩
  · rw [ei, hn]; exact wm
  · subst hd
    exact br_f (by decide) (br_f (by decide) (br_f (by decide) (br_f (by decide) (br_t rfl (br_f (nI_ne0 (by omega) (by omega)) K)))))
theorem x_take7b {s h m o t : Nat} (hs : s < 7) (hb : h < 128) (hh : xh s = nI (h + 1)) (hn : fN (s * 128 + h) = nI m) (hm : m < 96) (ho : op m = nI o) (ho2 : o ≤ 21) (ht : fT (s * 128 + h) = nI t) (hd : o = 7) (h0 : t = 0) (hf : ∀ q : Int32 → Prop, q 0 → wpX_isFalse q cr) (K : post (xd, xg, xN, xL, xF, xV, xC, (nI s), ph, cr, ec, en, ft, bt, pr, op, a, b, xp, fi, xl, nx, xo, fn, fe, vn, vo, vv, xst, xf, xr, xh, xc, fN, fX, fS, (upd fT (s * 128 + h) (nI (t + 1))), fL, pv)) : wpX_take post (xd, xg, xN, xL, xF, xV, xC, (nI s), ph, cr, ec, en, ft, bt, pr, op, a, b, xp, fi, xl, nx, xo, fn, fe, vn, vo, vv, xst, xf, xr, xh, xc, fN, fX, fS, fT, fL, pv) := by
  have ei := nc_ (n := s * 128 + h) (by omega)
  have e4 := nc_ (n := (s * 128 + h) * 4) (by omega)
  have em := nc_ (n := m) (by omega)
  have wm := vi_ (n := m) (N := 96) hm (by omega)
  have wi := vi_ (n := s * 128 + h) (N := 896) (by omega) (by omega)
  have w4 : vp_in (nI (s * 128 + h) * 4) 3584 := by rw [ix_4]; exact vi_ (by omega) (by omega)
  unfold wpX_take
  dsimp only
  refine x_top hs hh ?_
  refine ⟨wi, nm_r (e' := nI t) (by rw [ei, ht]) ⟨wi, wi, nm_r (e' := upd fT (s * 128 + h) (nI (t + 1))) (by rw [ei, ht, nI_1]) (nm_r (e' := nI ((s * 128 + h) * 4)) (ix_4 _) ⟨wi, ?_, nm_r (e' := nI o) (by rw [ei, hn, em, ho]) ?_⟩)⟩⟩
  · rw [ei, hn]; exact wm
  · subst hd h0
    exact br_f (by decide) (br_f (by decide) (br_f (by decide) (br_f (by decide) (br_t rfl (br_t rfl (hf _ (br_t rfl K)))))))
theorem x_take7c {s h m o t : Nat} (hs : s < 7) (hb : h < 128) (hh : xh s = nI (h + 1)) (hn : fN (s * 128 + h) = nI m) (hm : m < 96) (ho : op m = nI o) (ho2 : o ≤ 21) (ht : fT (s * 128 + h) = nI t) (hd : o = 7) (h0 : t = 0) (hf : ∀ q : Int32 → Prop, q 1 → wpX_isFalse q cr) (K : post (xd, xg, xN, xL, xF, xV, xC, (nI s), (-2), 0, ec, en, ft, bt, pr, op, a, b, xp, fi, xl, nx, xo, fn, fe, vn, vo, vv, xst, xf, xr, (upd xh s (nI h)), xc, fN, fX, fS, (upd fT (s * 128 + h) (nI (t + 1))), fL, pv)) : wpX_take post (xd, xg, xN, xL, xF, xV, xC, (nI s), ph, cr, ec, en, ft, bt, pr, op, a, b, xp, fi, xl, nx, xo, fn, fe, vn, vo, vv, xst, xf, xr, xh, xc, fN, fX, fS, fT, fL, pv) := by
  have ei := nc_ (n := s * 128 + h) (by omega)
  have e4 := nc_ (n := (s * 128 + h) * 4) (by omega)
  have em := nc_ (n := m) (by omega)
  have wm := vi_ (n := m) (N := 96) hm (by omega)
  have wi := vi_ (n := s * 128 + h) (N := 896) (by omega) (by omega)
  have w4 : vp_in (nI (s * 128 + h) * 4) 3584 := by rw [ix_4]; exact vi_ (by omega) (by omega)
  unfold wpX_take
  dsimp only
  refine x_top hs hh ?_
  refine ⟨wi, nm_r (e' := nI t) (by rw [ei, ht]) ⟨wi, wi, nm_r (e' := upd fT (s * 128 + h) (nI (t + 1))) (by rw [ei, ht, nI_1]) (nm_r (e' := nI ((s * 128 + h) * 4)) (ix_4 _) ⟨wi, ?_, nm_r (e' := nI o) (by rw [ei, hn, em, ho]) ?_⟩)⟩⟩
  · rw [ei, hn]; exact wm
  · subst hd h0
    exact br_f (by decide) (br_f (by decide) (br_f (by decide) (br_f (by decide) (br_t rfl (br_t rfl (hf _ (br_f (by decide) (x_finish hs hh K))))))))
end
