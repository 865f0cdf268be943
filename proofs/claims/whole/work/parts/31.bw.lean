section
theorem x_need {o : Nat} {q : Int32 → Prop} (ho : o < 20) (K : q (nI (ct_mn o))) : wpX_partsNeeded q (nI o) := by
  by_cases c0 : o = 0
  · subst c0
    exact (br_f (by decide) (br_f (by decide) (br_t rfl K)))
  by_cases c1 : o = 1
  · subst c1
    exact (br_f (by decide) (br_f (by decide) (br_f (by decide) (br_t rfl K))))
  by_cases c2 : o = 2
  · subst c2
    exact (br_f (by decide) (br_f (by decide) (br_f (by decide) (br_f (by decide) (br_t rfl K)))))
  by_cases c3 : o = 3
  · subst c3
    exact (br_f (by decide) (br_f (by decide) (br_f (by decide) (br_f (by decide) (br_f (by decide) (br_t rfl K))))))
  by_cases c4 : o = 4
  · subst c4
    exact (br_f (by decide) (br_f (by decide) (br_f (by decide) (br_f (by decide) (br_f (by decide) (br_f (by decide) (br_t rfl K)))))))
  by_cases c5 : o = 5
  · subst c5
    exact (br_f (by decide) (br_f (by decide) (br_f (by decide) (br_f (by decide) (br_f (by decide) (br_f (by decide) (br_f (by decide) (br_t rfl K))))))))
  by_cases c6 : o = 6
  · subst c6
    exact (br_f (by decide) (br_f (by decide) (br_f (by decide) (br_f (by decide) (br_f (by decide) (br_f (by decide) (br_f (by decide) (br_f (by decide) (br_t rfl K)))))))))
  by_cases c7 : o = 7
  · subst c7
    exact (br_f (by decide) (br_f (by decide) (br_f (by decide) (br_f (by decide) (br_f (by decide) (br_f (by decide) (br_f (by decide) (br_f (by decide) (br_f (by decide) (br_t rfl K))))))))))
  by_cases c8 : o = 8
  · subst c8
    exact (br_f (by decide) (br_f (by decide) (br_f (by decide) (br_f (by decide) (br_f (by decide) (br_f (by decide) (br_f (by decide) (br_f (by decide) (br_f (by decide) (br_f (by decide) (br_t rfl K)))))))))))
  by_cases c9 : o = 9
  · subst c9
    exact (br_f (by decide) (br_f (by decide) (br_f (by decide) (br_f (by decide) (br_f (by decide) (br_f (by decide) (br_f (by decide) (br_f (by decide) (br_f (by decide) (br_f (by decide) (br_f (by decide) (br_t rfl K))))))))))))
  by_cases c10 : o = 10
  · subst c10
    exact (br_f (by decide) (br_f (by decide) (br_f (by decide) (br_f (by decide) (br_f (by decide) (br_f (by decide) (br_f (by decide) (br_f (by decide) (br_f (by decide) (br_f (by decide) (br_f (by decide) (br_f (by decide) (br_t rfl K)))))))))))))
  by_cases c11 : o = 11
  · subst c11
    exact (br_f (by decide) (br_f (by decide) (br_f (by decide) (br_f (by decide) (br_f (by decide) (br_f (by decide) (br_f (by decide) (br_f (by decide) (br_f (by decide) (br_f (by decide) (br_f (by decide) (br_f (by decide) (br_f (by decide) (br_t rfl K))))))))))))))
  by_cases c12 : o = 12
  · subst c12
    exact (br_f (by decide) (br_f (by decide) (br_f (by decide) (br_f (by decide) (br_f (by decide) (br_f (by decide) (br_f (by decide) (br_f (by decide) (br_f (by decide) (br_f (by decide) (br_f (by decide) (br_f (by decide) (br_f (by decide) (br_f (by decide) (br_t rfl K)))))))))))))))
  by_cases c13 : o = 13
  · subst c13
    exact (br_f (by decide) (br_f (by decide) (br_f (by decide) (br_f (by decide) (br_f (by decide) (br_f (by decide) (br_f (by decide) (br_f (by decide) (br_f (by decide) (br_f (by decide) (br_f (by decide) (br_f (by decide) (br_f (by decide) (br_f (by decide) (br_f (by decide) (br_t rfl K))))))))))))))))
  by_cases c14 : o = 14
  · subst c14
    exact (br_f (by decide) (br_f (by decide) (br_f (by decide) (br_f (by decide) (br_f (by decide) (br_f (by decide) (br_f (by decide) (br_f (by decide) (br_f (by decide) (br_f (by decide) (br_f (by decide) (br_f (by decide) (br_f (by decide) (br_f (by decide) (br_f (by decide) (br_f (by decide) (br_t rfl K)))))))))))))))))
  by_cases c15 : o = 15
  · subst c15
    exact (br_f (by decide) (br_f (by decide) (br_f (by decide) (br_f (by decide) (br_f (by decide) (br_f (by decide) (br_f (by decide) (br_f (by decide) (br_f (by decide) (br_f (by decide) (br_f (by decide) (br_f (by decide) (br_f (by decide) (br_f (by decide) (br_f (by decide) (br_f (by decide) (br_f (by decide) (br_t rfl K))))))))))))))))))
  by_cases c16 : o = 16
  · subst c16
    exact (br_f (by decide) (br_f (by decide) (br_f (by decide) (br_f (by decide) (br_f (by decide) (br_f (by decide) (br_f (by decide) (br_f (by decide) (br_f (by decide) (br_f (by decide) (br_f (by decide) (br_f (by decide) (br_f (by decide) (br_f (by decide) (br_f (by decide) (br_f (by decide) (br_f (by decide) (br_f (by decide) (br_t rfl K)))))))))))))))))))
  by_cases c17 : o = 17
  · subst c17
    exact (br_f (by decide) (br_f (by decide) (br_f (by decide) (br_f (by decide) (br_f (by decide) (br_f (by decide) (br_f (by decide) (br_f (by decide) (br_f (by decide) (br_f (by decide) (br_f (by decide) (br_f (by decide) (br_f (by decide) (br_f (by decide) (br_f (by decide) (br_f (by decide) (br_f (by decide) (br_f (by decide) (br_f (by decide) (br_t rfl K))))))))))))))))))))
  by_cases c18 : o = 18
  · subst c18
    exact (br_f (by decide) (br_f (by decide) (br_f (by decide) (br_f (by decide) (br_f (by decide) (br_f (by decide) (br_f (by decide) (br_f (by decide) (br_f (by decide) (br_f (by decide) (br_f (by decide) (br_f (by decide) (br_f (by decide) (br_f (by decide) (br_f (by decide) (br_f (by decide) (br_f (by decide) (br_f (by decide) (br_f (by decide) (br_f (by decide) (br_t rfl K)))))))))))))))))))))
  by_cases c19 : o = 19
  · subst c19
    exact (br_f (by decide) (br_f (by decide) (br_f (by decide) (br_f (by decide) (br_f (by decide) (br_f (by decide) (br_f (by decide) (br_f (by decide) (br_f (by decide) (br_f (by decide) (br_f (by decide) (br_f (by decide) (br_f (by decide) (br_f (by decide) (br_f (by decide) (br_f (by decide) (br_f (by decide) (br_f (by decide) (br_f (by decide) (br_f (by decide) (br_f (by decide) (br_t rfl K))))))))))))))))))))))
  · omega
theorem x_allow {o : Nat} {q : Int32 → Prop} (ho : o < 20) (K : q (nI (ct_mx o))) : wpX_partsAllowed q (nI o) := by
  by_cases c0 : o = 0
  · subst c0
    exact (br_t (by decide) (x_need (by decide) K))
  by_cases c1 : o = 1
  · subst c1
    exact (br_t (by decide) (x_need (by decide) K))
  by_cases c2 : o = 2
  · subst c2
    exact (br_t (by decide) (x_need (by decide) K))
  by_cases c3 : o = 3
  · subst c3
    exact (br_t (by decide) (x_need (by decide) K))
  by_cases c4 : o = 4
  · subst c4
    exact (br_t (by decide) (x_need (by decide) K))
  by_cases c5 : o = 5
  · subst c5
    exact (br_t (by decide) (x_need (by decide) K))
  by_cases c6 : o = 6
  · subst c6
    exact (br_f (by decide) (br_f (by decide) (br_t rfl K)))
  by_cases c7 : o = 7
  · subst c7
    exact (br_f (by decide) (br_f (by decide) (br_f (by decide) (br_t rfl K))))
  by_cases c8 : o = 8
  · subst c8
    exact (br_f (by decide) (br_f (by decide) (br_f (by decide) (br_f (by decide) (br_t rfl K)))))
  by_cases c9 : o = 9
  · subst c9
    exact (br_f (by decide) (br_f (by decide) (br_f (by decide) (br_f (by decide) (br_f (by decide) (br_t rfl (x_need (by decide) K)))))))
  by_cases c10 : o = 10
  · subst c10
    exact (br_f (by decide) (br_f (by decide) (br_f (by decide) (br_f (by decide) (br_f (by decide) (br_f (by decide) (br_t rfl K)))))))
  by_cases c11 : o = 11
  · subst c11
    exact (br_f (by decide) (br_f (by decide) (br_f (by decide) (br_f (by decide) (br_f (by decide) (br_f (by decide) (br_f (by decide) (br_t rfl K))))))))
  by_cases c12 : o = 12
  · subst c12
    exact (br_f (by decide) (br_t (by decide) (x_need (by decide) K)))
  by_cases c13 : o = 13
  · subst c13
    exact (br_f (by decide) (br_t (by decide) (x_need (by decide) K)))
  by_cases c14 : o = 14
  · subst c14
    exact (br_f (by decide) (br_t (by decide) (x_need (by decide) K)))
  by_cases c15 : o = 15
  · subst c15
    exact (br_f (by decide) (br_t (by decide) (x_need (by decide) K)))
  by_cases c16 : o = 16
  · subst c16
    exact (br_f (by decide) (br_t (by decide) (x_need (by decide) K)))
  by_cases c17 : o = 17
  · subst c17
    exact (br_f (by decide) (br_t (by decide) (x_need (by decide) K)))
  by_cases c18 : o = 18
  · subst c18
    exact (br_f (by decide) (br_t (by decide) (x_need (by decide) K)))
  by_cases c19 : o = 19
  · subst c19
    exact (br_f (by decide) (br_t (by decide) (x_need (by decide) K)))
  · omega
def cm_ (o : Nat) : Nat := if ct_mx o = 96 then 1000 else ct_mx o
theorem y_most {o : Nat} {q : Int32 → Prop} {u : SY} (ho : o < 20) (K : q (nI (cm_ o))) : wpY_most q u (nI o) := by
  by_cases c0 : o = 0
  · subst c0
    exact (br_t (by decide) K)
  by_cases c1 : o = 1
  · subst c1
    exact (br_t (by decide) K)
  by_cases c2 : o = 2
  · subst c2
    exact (br_t (by decide) K)
  by_cases c3 : o = 3
  · subst c3
    exact (br_t (by decide) K)
  by_cases c4 : o = 4
  · subst c4
    exact (br_t (by decide) K)
  by_cases c5 : o = 5
  · subst c5
    exact (br_f (by decide) (br_f (by decide) (br_t rfl K)))
  by_cases c6 : o = 6
  · subst c6
    exact (br_f (by decide) (br_f (by decide) (br_f (by decide) (br_t rfl K))))
  by_cases c7 : o = 7
  · subst c7
    exact (br_f (by decide) (br_f (by decide) (br_f (by decide) (br_f (by decide) (br_t rfl K)))))
  by_cases c8 : o = 8
  · subst c8
    exact (br_f (by decide) (br_f (by decide) (br_f (by decide) (br_f (by decide) (br_f (by decide) (br_t rfl K))))))
  by_cases c9 : o = 9
  · subst c9
    exact (br_f (by decide) (br_f (by decide) (br_f (by decide) (br_f (by decide) (br_f (by decide) (br_f (by decide) (br_f (by decide) (br_f (by decide) (br_f (by decide) K)))))))))
  by_cases c10 : o = 10
  · subst c10
    exact (br_f (by decide) (br_f (by decide) (br_f (by decide) (br_f (by decide) (br_f (by decide) (br_f (by decide) (br_t rfl K)))))))
  by_cases c11 : o = 11
  · subst c11
    exact (br_f (by decide) (br_f (by decide) (br_f (by decide) (br_f (by decide) (br_f (by decide) (br_f (by decide) (br_f (by decide) (br_t rfl K))))))))
  by_cases c12 : o = 12
  · subst c12
    exact (br_f (by decide) (br_f (by decide) (br_f (by decide) (br_f (by decide) (br_f (by decide) (br_f (by decide) (br_f (by decide) (br_f (by decide) (br_f (by decide) K)))))))))
  by_cases c13 : o = 13
  · subst c13
    exact (br_f (by decide) (br_f (by decide) (br_f (by decide) (br_f (by decide) (br_f (by decide) (br_f (by decide) (br_f (by decide) (br_f (by decide) (br_f (by decide) K)))))))))
  by_cases c14 : o = 14
  · subst c14
    exact (br_f (by decide) (br_f (by decide) (br_f (by decide) (br_f (by decide) (br_f (by decide) (br_f (by decide) (br_f (by decide) (br_f (by decide) (br_f (by decide) K)))))))))
  by_cases c15 : o = 15
  · subst c15
    exact (br_f (by decide) (br_f (by decide) (br_f (by decide) (br_f (by decide) (br_f (by decide) (br_f (by decide) (br_f (by decide) (br_f (by decide) (br_f (by decide) K)))))))))
  by_cases c16 : o = 16
  · subst c16
    exact (br_f (by decide) (br_t rfl K))
  by_cases c17 : o = 17
  · subst c17
    exact (br_f (by decide) (br_f (by decide) (br_f (by decide) (br_f (by decide) (br_f (by decide) (br_f (by decide) (br_f (by decide) (br_f (by decide) (br_f (by decide) K)))))))))
  by_cases c18 : o = 18
  · subst c18
    exact (br_f (by decide) (br_f (by decide) (br_f (by decide) (br_f (by decide) (br_f (by decide) (br_f (by decide) (br_f (by decide) (br_f (by decide) (br_f (by decide) K)))))))))
  by_cases c19 : o = 19
  · subst c19
    exact (br_f (by decide) (br_f (by decide) (br_f (by decide) (br_f (by decide) (br_f (by decide) (br_f (by decide) (br_f (by decide) (br_f (by decide) (br_t rfl K)))))))))
  · omega
theorem y_few {o : Nat} {q : Int32 → Prop} {u : SY} (ho : o < 20) (K : q (nI (ct_mn o))) : wpY_fewest q u (nI o) := by
  by_cases c0 : o = 0
  · subst c0
    exact (br_f (by decide) (br_f (by decide) (br_f (by decide) (br_f (by decide) (br_f (by decide) (y_most (u := u) (by decide) K))))))
  by_cases c1 : o = 1
  · subst c1
    exact (br_f (by decide) (br_f (by decide) (br_f (by decide) (br_f (by decide) (br_f (by decide) (y_most (u := u) (by decide) K))))))
  by_cases c2 : o = 2
  · subst c2
    exact (br_f (by decide) (br_f (by decide) (br_f (by decide) (br_f (by decide) (br_f (by decide) (y_most (u := u) (by decide) K))))))
  by_cases c3 : o = 3
  · subst c3
    exact (br_f (by decide) (br_f (by decide) (br_f (by decide) (br_f (by decide) (br_f (by decide) (y_most (u := u) (by decide) K))))))
  by_cases c4 : o = 4
  · subst c4
    exact (br_f (by decide) (br_f (by decide) (br_f (by decide) (br_f (by decide) (br_f (by decide) (y_most (u := u) (by decide) K))))))
  by_cases c5 : o = 5
  · subst c5
    exact (br_f (by decide) (br_f (by decide) (br_f (by decide) (br_f (by decide) (br_f (by decide) (y_most (u := u) (by decide) K))))))
  by_cases c6 : o = 6
  · subst c6
    exact (br_t rfl K)
  by_cases c7 : o = 7
  · subst c7
    exact (br_f (by decide) (br_f (by decide) (br_t rfl K)))
  by_cases c8 : o = 8
  · subst c8
    exact (br_f (by decide) (br_f (by decide) (br_f (by decide) (br_t rfl K))))
  by_cases c9 : o = 9
  · subst c9
    exact (br_f (by decide) (br_f (by decide) (br_f (by decide) (br_f (by decide) (br_f (by decide) (y_most (u := u) (by decide) K))))))
  by_cases c10 : o = 10
  · subst c10
    exact (br_f (by decide) (br_t rfl K))
  by_cases c11 : o = 11
  · subst c11
    exact (br_f (by decide) (br_f (by decide) (br_f (by decide) (br_f (by decide) (br_t rfl K)))))
  by_cases c12 : o = 12
  · subst c12
    exact (br_f (by decide) (br_f (by decide) (br_f (by decide) (br_f (by decide) (br_f (by decide) (y_most (u := u) (by decide) K))))))
  by_cases c13 : o = 13
  · subst c13
    exact (br_f (by decide) (br_f (by decide) (br_f (by decide) (br_f (by decide) (br_f (by decide) (y_most (u := u) (by decide) K))))))
  by_cases c14 : o = 14
  · subst c14
    exact (br_f (by decide) (br_f (by decide) (br_f (by decide) (br_f (by decide) (br_f (by decide) (y_most (u := u) (by decide) K))))))
  by_cases c15 : o = 15
  · subst c15
    exact (br_f (by decide) (br_f (by decide) (br_f (by decide) (br_f (by decide) (br_f (by decide) (y_most (u := u) (by decide) K))))))
  by_cases c16 : o = 16
  · subst c16
    exact (br_f (by decide) (br_f (by decide) (br_f (by decide) (br_f (by decide) (br_f (by decide) (y_most (u := u) (by decide) K))))))
  by_cases c17 : o = 17
  · subst c17
    exact (br_f (by decide) (br_f (by decide) (br_f (by decide) (br_f (by decide) (br_f (by decide) (y_most (u := u) (by decide) K))))))
  by_cases c18 : o = 18
  · subst c18
    exact (br_f (by decide) (br_f (by decide) (br_f (by decide) (br_f (by decide) (br_f (by decide) (y_most (u := u) (by decide) K))))))
  by_cases c19 : o = 19
  · subst c19
    exact (br_f (by decide) (br_f (by decide) (br_f (by decide) (br_f (by decide) (br_f (by decide) (y_most (u := u) (by decide) K))))))
  · omega
end
section
variable {xd xg xN xL xF xV xC xs ph : Int32} {cr : Int64} {ec en ft bt pr : Int32} {op a b xp fi xl nx xo fn fe vn vo : Nat → Int32} {vv : Nat → Int64} {xst xf xr xh xc fN fX fS fT : Nat → Int32} {fL pv : Nat → Int64}
/-- a new node, X -/
theorem x_a26 {post : SX → Prop} {N : Nat} {ov av bv : Int32} (hN : N < 96) (K : post (xd, xg, (nI (N + 1)), xL, xF, xV, xC, xs, ph, cr, ec, en, ft, bt, pr, (upd op N ov), (upd a N av), (upd b N bv), (upd xp N 0), (upd fi N (-1)), xl, (upd nx N (-1)), xo, fn, fe, vn, vo, vv, xst, xf, xr, xh, xc, fN, fX, fS, fT, fL, pv)) : wX_addNode_26 post ov av bv xd xg (nI N) xL xF xV xC xs ph cr ec en ft bt pr op a b xp fi xl nx xo fn fe vn vo vv xst xf xr xh xc fN fX fS fT fL pv := by
  have e := nc_ (n := N) (by omega)
  have w := vi_ (n := N) (N := 96) hN (by omega)
  exact ⟨w, nm_r (e' := upd op N ov) (by rw [e]) ⟨w, nm_r (e' := upd a N av) (by rw [e]) ⟨w, nm_r (e' := upd b N bv) (by rw [e]) ⟨w, nm_r (e' := upd xp N 0) (by rw [e]) ⟨w, nm_r (e' := upd fi N (-1)) (by rw [e]) ⟨w, nm_r (e' := upd nx N (-1)) (by rw [e]) (nm_r (nI_1 N) K)⟩⟩⟩⟩⟩⟩
theorem x_add0 {post : SX → Prop} {N : Nat} {ov av bv : Int32} (hN : N < 96) (K : post (xd, xg, (nI (N + 1)), (nI 0), xF, xV, xC, xs, ph, cr, ec, en, ft, bt, pr, (upd op N ov), (upd a N av), (upd b N bv), (upd xp N 0), (upd fi N (-1)), xl, (upd nx N (-1)), xo, fn, fe, vn, vo, vv, xst, xf, xr, xh, xc, fN, fX, fS, fT, fL, pv)) : wpX_addNode post (xd, xg, (nI N), (nI 0), xF, xV, xC, xs, ph, cr, ec, en, ft, bt, pr, op, a, b, xp, fi, xl, nx, xo, fn, fe, vn, vo, vv, xst, xf, xr, xh, xc, fN, fX, fS, fT, fL, pv) ov av bv := br_t (by decide) (x_a26 hN K)
theorem x_add1 {post : SX → Prop} {N l m p z : Nat} {ov av bv : Int32} (hN : N < 96) (hl : l < 16) (ho : xo l = nI m) (hm : m < 96) (hf0 : p = 0 → fi m = -1) (hf1 : 0 < p → ∃ j, j < 96 ∧ fi m = nI j) (hz : 0 < p → xl m = nI z ∧ z < 96)
    (K : post (xd, xg, (nI (N + 1)), (nI (l + 1)), xF, xV, xC, xs, ph, cr, ec, en, ft, bt, pr, (upd op N ov), (upd a N av), (upd b N bv), (upd xp N 0), (upd (if p = 0 then upd fi m (nI N) else fi) N (-1)), (upd xl m (nI N)), (upd (if p = 0 then nx else upd nx z (nI N)) N (-1)), xo, fn, fe, vn, vo, vv, xst, xf, xr, xh, xc, fN, fX, fS, fT, fL, pv)) : wpX_addNode post (xd, xg, (nI N), (nI (l + 1)), xF, xV, xC, xs, ph, cr, ec, en, ft, bt, pr, op, a, b, xp, fi, xl, nx, xo, fn, fe, vn, vo, vv, xst, xf, xr, xh, xc, fN, fX, fS, fT, fL, pv) ov av bv := by
  have el := nc_ (n := l) (by omega)
  have em := nc_ (n := m) (by omega)
  have wm := vi_ (n := m) (N := 96) hm (by omega)
  refine br_f (nI_nle (by omega) (by omega)) ?_
  rw [nI_pred, el, ho]
  refine ⟨vi_ hl (by omega), wm, ?_⟩
  rw [em]
  rcases Nat.eq_zero_or_pos p with h0 | h0
  · rw [if_pos h0, if_pos h0] at K
    exact br_t (hf0 h0) ⟨wm, nm_r (e' := upd fi m (nI N)) rfl ⟨wm, nm_r (e' := upd xl m (nI N)) rfl (x_a26 hN K)⟩⟩
  · rw [if_neg (by omega), if_neg (by omega)] at K
    obtain ⟨z1, z2⟩ := hz h0
    have ez := nc_ (n := z) (by omega)
    refine br_f ?_ ⟨wm, ?_, nm_r (e' := upd nx z (nI N)) (by rw [z1, ez]) ⟨wm, nm_r (e' := upd xl m (nI N)) rfl (x_a26 hN K)⟩⟩
    · obtain ⟨j, j1, j2⟩ := hf1 h0
      rw [j2]
      intro h
      have h2 := nI_pos' (n := j) (by omega)
      rw [h] at h2
      exact absurd h2 (by decide)
    · rw [z1]; exact vi_ z2 (by omega)
theorem x_cnt0 {post : SX → Prop} (K : post (xd, xg, xN, (nI 0), xF, xV, xC, xs, ph, cr, ec, en, ft, bt, pr, op, a, b, xp, fi, xl, nx, xo, fn, fe, vn, vo, vv, xst, xf, xr, xh, xc, fN, fX, fS, fT, fL, pv)) : wpX_countPart post (xd, xg, xN, (nI 0), xF, xV, xC, xs, ph, cr, ec, en, ft, bt, pr, op, a, b, xp, fi, xl, nx, xo, fn, fe, vn, vo, vv, xst, xf, xr, xh, xc, fN, fX, fS, fT, fL, pv) := br_t (by decide) K
theorem x_cnt1 {post : SX → Prop} {l m p : Nat} (hl : l < 16) (ho : xo l = nI m) (hm : m < 96) (hp : xp m = nI p) (K : post (xd, xg, xN, (nI (l + 1)), xF, xV, xC, xs, ph, cr, ec, en, ft, bt, pr, op, a, b, (upd xp m (nI (p + 1))), fi, xl, nx, xo, fn, fe, vn, vo, vv, xst, xf, xr, xh, xc, fN, fX, fS, fT, fL, pv)) : wpX_countPart post (xd, xg, xN, (nI (l + 1)), xF, xV, xC, xs, ph, cr, ec, en, ft, bt, pr, op, a, b, xp, fi, xl, nx, xo, fn, fe, vn, vo, vv, xst, xf, xr, xh, xc, fN, fX, fS, fT, fL, pv) := by
  have el := nc_ (n := l) (by omega)
  have em := nc_ (n := m) (by omega)
  have wm := vi_ (n := m) (N := 96) hm (by omega)
  refine br_f (nI_nle (by omega) (by omega)) ?_
  rw [nI_pred, el, ho, em, hp]
  exact ⟨vi_ hl (by omega), wm, wm, nm_r (e' := upd xp m (nI (p + 1))) (by rw [nI_1]) K⟩
/-- room for a node: X -/
theorem x_room0 {q : Int32 → Prop} {N L : Nat} (h : (0 < N ∧ L = 0) ∨ 96 ≤ N) (hN : N ≤ 96) (hL : L < 1000) (K : q 0) : wpX_hasRoom q (xd, xg, (nI N), (nI L), xF, xV, xC, xs, ph, cr, ec, en, ft, bt, pr, op, a, b, xp, fi, xl, nx, xo, fn, fe, vn, vo, vv, xst, xf, xr, xh, xc, fN, fX, fS, fT, fL, pv) := by
  unfold wpX_hasRoom
  dsimp only
  by_cases h1 : 0 < N ∧ L = 0
  · obtain ⟨h2, rfl⟩ := h1
    exact br_f (nI_nle h2 (by omega)) (br_t rfl (br_f (by decide) K))
  · have h3 : 96 ≤ N := h.resolve_left h1
    refine br_f (nI_nle (by omega) (by omega)) (br_f (nI_ne0 (by omega) (by omega)) (br_t rfl (br_f (nI_nlt (b := 96) h3 (by omega)) K)))
theorem x_room1 {q : Int32 → Prop} (K : q 1) : wpX_hasRoom q (xd, xg, (nI 0), (nI 0), xF, xV, xC, xs, ph, cr, ec, en, ft, bt, pr, op, a, b, xp, fi, xl, nx, xo, fn, fe, vn, vo, vv, xst, xf, xr, xh, xc, fN, fX, fS, fT, fL, pv) := by
  unfold wpX_hasRoom
  dsimp only
  exact br_t (by decide) (br_t rfl (br_t (by decide) (br_t rfl K)))
theorem x_room2 {q : Int32 → Prop} {N l m o p : Nat} (hN0 : 0 < N) (hN : N < 96) (hl : l < 16) (ho : xo l = nI m) (hm : m < 96) (hp : xp m = nI p) (hp9 : p < 1000) (hop : op m = nI o) (ho2 : o < 20) (K1 : ct_mx o ≤ p → q 0) (K2 : p < ct_mx o → q 1) : wpX_hasRoom q (xd, xg, (nI N), (nI (l + 1)), xF, xV, xC, xs, ph, cr, ec, en, ft, bt, pr, op, a, b, xp, fi, xl, nx, xo, fn, fe, vn, vo, vv, xst, xf, xr, xh, xc, fN, fX, fS, fT, fL, pv) := by
  have el := nc_ (n := l) (by omega)
  have em := nc_ (n := m) (by omega)
  have wm := vi_ (n := m) (N := 96) hm (by omega)
  have hx : ct_mx o ≤ 96 := by unfold ct_mx; split <;> (try split) <;> (try split) <;> (try split) <;> (try split) <;> omega
  unfold wpX_hasRoom
  dsimp only
  refine br_f (nI_nle (by omega) (by omega)) (br_f (nI_ne0 (by omega) (by omega)) (br_t rfl (br_t (nI_lt (b := 96) hN (by omega)) (br_f (nI_ne0 (by omega) (by omega)) ?_))))
  rw [nI_pred, el, ho]
  refine ⟨vi_ hl (by omega), nm_e ⟨wm, wm, ?_⟩⟩
  rw [em, hop, hp]
  exact x_allow ho2 (pk_le _ _ K1 K2)
end
section
variable {yd yg yN yi yo yV yF yC ys yft ybt res yer ypl ypr rn hs : Int32} {gv gt : Int64} {op a b pa fi nx yp wn wu gn ge : Nat → Int32} {wv : Nat → Int64} {yl ya ye : Nat → Int32} {yk : Nat → Int64} {yt yc yst yf yr : Nat → Int32} {ou : Nat → Int64}
theorem y_room0 {q : Int32 → Prop} {N : Nat} (h : (0 < N ∧ yi = -1) ∨ (96 ≤ N ∧ ¬ yi < 0)) (hN : N ≤ 96) (K : q 0) : wpY_room q (yd, yg, (nI N), yi, yo, yV, yF, yC, ys, yft, ybt, res, yer, ypl, ypr, rn, hs, gv, gt, op, a, b, pa, fi, nx, yp, wn, wu, gn, ge, wv, yl, ya, ye, yk, yt, yc, yst, yf, yr, ou) := by
  rcases h with ⟨h1, h2⟩ | ⟨h1, h2⟩
  · subst h2
    exact br_f (nI_nle h1 (by omega)) (br_f (by decide) (br_f (by decide) K))
  · exact br_f (nI_nle (by omega) (by omega)) (br_t (Int32.not_lt.mp h2) (br_t rfl (br_t (nI_le (a := 96) h1 (by omega)) K)))
theorem y_room1 {q : Int32 → Prop} (K : q 1) : wpY_room q (yd, yg, (nI 0), (-1), yo, yV, yF, yC, ys, yft, ybt, res, yer, ypl, ypr, rn, hs, gv, gt, op, a, b, pa, fi, nx, yp, wn, wu, gn, ge, wv, yl, ya, ye, yk, yt, yc, yst, yf, yr, ou) := br_t (by decide) (br_t rfl (br_f (by decide) (br_t (by decide) K)))
theorem y_room2 {q : Int32 → Prop} {N m o p : Nat} (hN0 : 0 < N) (hN : N < 96) (hm : m < 96) (hp : yp m = nI p) (hp9 : p < 96) (hop : op m = nI o) (ho2 : o < 20) (K1 : ct_mx o ≤ p → q 0) (K2 : p < ct_mx o → q 1) : wpY_room q (yd, yg, (nI N), (nI m), yo, yV, yF, yC, ys, yft, ybt, res, yer, ypl, ypr, rn, hs, gv, gt, op, a, b, pa, fi, nx, yp, wn, wu, gn, ge, wv, yl, ya, ye, yk, yt, yc, yst, yf, yr, ou) := by
  have em := nc_ (n := m) (by omega)
  have wm := vi_ (n := m) (N := 96) hm (by omega)
  have hc : cm_ o < 2000 := by unfold cm_ ct_mx; split <;> (try split) <;> (try split) <;> (try split) <;> (try split) <;> (try split) <;> omega
  refine br_f (nI_nle (by omega) (by omega)) (br_t (nI_pos' (by omega)) (br_t rfl (br_f (nI_ge (b := 96) hN (by omega)) (br_f (nI_pos (by omega)) ⟨wm, wm, ?_⟩))))
  rw [em, hop, hp]
  refine y_most ho2 (pk_le _ _ (fun h => K1 ?_) (fun h => K2 ?_))
  · unfold cm_ at h; split at h <;> omega
  · unfold cm_ at h; split at h <;> omega
theorem y_152 {post : SY → Prop} {N m p : Nat} (hm : m < 96) (hp : yp m = nI p) (K : post (yd, yg, (nI (N + 1)), (nI m), yo, yV, yF, yC, ys, yft, ybt, res, yer, ypl, ypr, rn, hs, gv, gt, op, a, b, pa, fi, nx, (upd yp m (nI (p + 1))), wn, wu, gn, ge, wv, yl, ya, ye, yk, yt, yc, yst, yf, yr, ou)) : wY_add_152 post yd yg (nI N) (nI m) yo yV yF yC ys yft ybt res yer ypl ypr rn hs gv gt op a b pa fi nx yp wn wu gn ge wv yl ya ye yk yt yc yst yf yr ou := by
  have em := nc_ (n := m) (by omega)
  have wm := vi_ (n := m) (N := 96) hm (by omega)
  exact ⟨wm, wm, nm_r (e' := upd yp m (nI (p + 1))) (by rw [em, hp, nI_1]) (nm_r (nI_1 N) K)⟩
theorem y_119 {post : SY → Prop} {N c : Nat} {kd : Nat → Nat} (hk : ∀ i, i ≤ c → kd i < 96) (hn : ∀ i, i < c → nx (kd i) = nI (kd (i + 1))) (hl : nx (kd c) = -1) (K : wY_add_152 post yd yg (nI N) yi yo yV yF yC ys yft ybt res yer ypl ypr rn hs gv gt op a b pa fi (upd nx (kd c) (nI N)) yp wn wu gn ge wv yl ya ye yk yt yc yst yf yr ou) : ∀ d i, i + d = c → ∀ f, wY_add_119 post yd yg (nI N) yi yo yV yF yC ys yft ybt res yer ypl ypr rn hs gv gt op a b pa fi nx yp wn wu gn ge wv yl ya ye yk yt yc yst yf yr ou (f + d + 1) (nI (kd i)) := by
  intro d
  induction d with
  | zero =>
    intro i hi f
    obtain rfl : i = c := by omega
    have e := nc_ (n := kd i) (by have := hk i (Nat.le_refl _); omega)
    have w := vi_ (n := kd i) (N := 96) (hk i (Nat.le_refl _)) (by omega)
    exact ⟨w, br_t (by rw [e, hl]; decide) ⟨w, nm_r (e' := upd nx (kd i) (nI N)) (by rw [e]) K⟩⟩
  | succ d ih =>
    intro i hi f
    have e := nc_ (n := kd i) (by have := hk i (by omega); omega)
    have w := vi_ (n := kd i) (N := 96) (hk i (by omega)) (by omega)
    refine ⟨w, br_f ?_ ⟨w, nm_r (e' := nI (kd (i + 1))) (by rw [e]; exact hn i (by omega)) ?_⟩⟩
    · rw [e, hn i (by omega)]; exact nI_pos (by have := hk (i + 1) (by omega); omega)
    · exact ih (i + 1) (by omega) f
theorem y_add0 {post : SY → Prop} {N : Nat} {ov av bv : Int32} (hN : N < 96) (K : post (yd, yg, (nI (N + 1)), (-1), yo, yV, yF, yC, ys, yft, ybt, res, yer, ypl, ypr, rn, hs, gv, gt, (upd op N ov), (upd a N av), (upd b N bv), (upd pa N (-1)), (upd fi N (-1)), (upd nx N (-1)), (upd yp N 0), wn, wu, gn, ge, wv, yl, ya, ye, yk, yt, yc, yst, yf, yr, ou)) : wpY_add post (yd, yg, (nI N), (-1), yo, yV, yF, yC, ys, yft, ybt, res, yer, ypl, ypr, rn, hs, gv, gt, op, a, b, pa, fi, nx, yp, wn, wu, gn, ge, wv, yl, ya, ye, yk, yt, yc, yst, yf, yr, ou) ov av bv := by
  have e := nc_ (n := N) (by omega)
  have w := vi_ (n := N) (N := 96) hN (by omega)
  exact ⟨w, nm_r (e' := upd op N ov) (by rw [e]) ⟨w, nm_r (e' := upd a N av) (by rw [e]) ⟨w, nm_r (e' := upd b N bv) (by rw [e]) ⟨w, nm_r (e' := upd pa N (-1)) (by rw [e]) ⟨w, nm_r (e' := upd fi N (-1)) (by rw [e]) ⟨w, nm_r (e' := upd nx N (-1)) (by rw [e]) ⟨w, nm_r (e' := upd yp N 0) (by rw [e]) (br_t (by decide) (nm_r (nI_1 N) K))⟩⟩⟩⟩⟩⟩⟩
theorem y_add1 {post : SY → Prop} {N m p : Nat} {kd : Nat → Nat} {ov av bv : Int32} (hN : N < 96) (hmN : m < N) (hp : yp m = nI p) (hf0 : p = 0 → fi m = -1) (hf1 : 0 < p → fi m = nI (kd 0)) (hk : ∀ i, i < p → kd i < N) (hn : ∀ i, i + 1 < p → nx (kd i) = nI (kd (i + 1))) (hl : 0 < p → nx (kd (p - 1)) = -1)
    (K : post (yd, yg, (nI (N + 1)), (nI m), yo, yV, yF, yC, ys, yft, ybt, res, yer, ypl, ypr, rn, hs, gv, gt, (upd op N ov), (upd a N av), (upd b N bv), (upd pa N (nI m)), (upd (if p = 0 then upd fi m (nI N) else fi) N (-1)), (upd (if p = 0 then nx else upd nx (kd (p - 1)) (nI N)) N (-1)), (upd (upd yp N 0) m (nI (p + 1))), wn, wu, gn, ge, wv, yl, ya, ye, yk, yt, yc, yst, yf, yr, ou)) : wpY_add post (yd, yg, (nI N), (nI m), yo, yV, yF, yC, ys, yft, ybt, res, yer, ypl, ypr, rn, hs, gv, gt, op, a, b, pa, fi, nx, yp, wn, wu, gn, ge, wv, yl, ya, ye, yk, yt, yc, yst, yf, yr, ou) ov av bv := by
  have e := nc_ (n := N) (by omega)
  have em := nc_ (n := m) (by omega)
  have w := vi_ (n := N) (N := 96) hN (by omega)
  have wm := vi_ (n := m) (N := 96) (by omega) (by omega)
  refine ⟨w, nm_r (e' := upd op N ov) (by rw [e]) ⟨w, nm_r (e' := upd a N av) (by rw [e]) ⟨w, nm_r (e' := upd b N bv) (by rw [e]) ⟨w, nm_r (e' := upd pa N (nI m)) (by rw [e]) ⟨w, nm_r (e' := upd fi N (-1)) (by rw [e]) ⟨w, nm_r (e' := upd nx N (-1)) (by rw [e]) ⟨w, nm_r (e' := upd yp N 0) (by rw [e]) (br_f (nI_pos (by omega)) ⟨wm, ?_⟩)⟩⟩⟩⟩⟩⟩⟩
  rw [em, pk_un (show m ≠ N by omega)]
  have yp' : upd yp N 0 m = nI p := (pk_un (by omega)).trans hp
  rcases Nat.eq_zero_or_pos p with h0 | h0
  · rw [if_pos h0, if_pos h0, up_comm (show m ≠ N by omega)] at K
    refine br_f (by rw [hf0 h0]; decide) ⟨wm, nm_r (e' := upd (upd fi N (-1)) m (nI N)) rfl ?_⟩
    exact y_152 (by omega) yp' K
  · rw [if_neg (show ¬ p = 0 by omega), if_neg (show ¬ p = 0 by omega), up_comm (show kd (p - 1) ≠ N by have := hk (p - 1) (by omega); omega)] at K
    refine br_t (by rw [hf1 h0]; exact nI_pos' (by have := hk 0 h0; omega)) ⟨wm, nm_r (e' := nI (kd 0)) (hf1 h0) ⟨0 + (p - 1) + 1, ?_⟩⟩
    refine y_119 (c := p - 1) (fun i hi => by have := hk i (by omega); omega) (fun i hi => ?_) ?_ (y_152 (by omega) yp' K) (p - 1) 0 (by omega) 0
    · rw [pk_un (by have := hk i (by omega); omega)]; exact hn i (by omega)
    · rw [pk_un (by have := hk (p - 1) (by omega); omega)]; exact hl h0
end
