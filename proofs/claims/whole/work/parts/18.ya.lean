section
variable {yd yg yN yi yo yV yF yC ys yft ybt res yer ypl ypr rn hs : Int32} {gv gt : Int64} {op a b pa fi nx yp wn wu gn ge : Nat → Int32} {wv : Nat → Int64} {yl ya ye : Nat → Int32} {yk : Nat → Int64} {yt yc yst yf yr : Nat → Int32} {ou : Nat → Int64}
variable {post : SY → Prop}
theorem y_Dn {s w n i p o : Nat} {v : Int64} (h7 : s < 7) (ht : yt s = nI (w + 1)) (hw : w < 112) (hl : yl (112 * s + w) = nI n) (hn : n < 96) (ha : ya (112 * s + w) = nI i) (hp : yp n = nI p) (hi : i < 100) (hp9 : p < 100) (ho : op n = nI o) (hz : i + 1 ≠ p) (hd : o < 5 ∨ 10 < o ∨ o = 9) (ho2 : o ≤ 21) (hi3 : i < 3 ∨ i + 1 = p) (K : post (yd, yg, yN, yi, yo, yV, yF, yC, (nI s), yft, ybt, res, yer, ypl, ypr, rn, hs, gv, gt, op, a, b, pa, fi, nx, yp, wn, wu, gn, ge, wv, yl, (upd ya (112 * s + w) (nI (i + 1))), ye, (vp_updL yk (3 * (112 * s + w) + i) v), yt, yc, yst, yf, yr, ou)) : wpY_deliver post (yd, yg, yN, yi, yo, yV, yF, yC, (nI s), yft, ybt, res, yer, ypl, ypr, rn, hs, gv, gt, op, a, b, pa, fi, nx, yp, wn, wu, gn, ge, wv, yl, ya, ye, yk, yt, yc, yst, yf, yr, ou) v := by
  have e := nc_ (n := s) (by omega)
  have ei := nc_ (n := 112 * s + w) (by omega)
  have e2 := nc_ (n := n) (by omega)
  have v7 := vi_ (n := s) (N := 7) h7 (by omega)
  have vn := vi_ (n := n) (N := 96) hn (by omega)
  have v1 := vi_ (n := 112 * s + w) (N := 784) (by omega) (by omega)
  refine ⟨v7, br_f ?_ ⟨v7, nm_r (e' := nI (112 * s + w)) (by rw [e, ht, ix_y]) ⟨v1, nm_r (e' := nI n) (by rw [ei, hl]) ⟨v1, nm_r (e' := nI i) (by rw [ei, ha]) ⟨vn, br_f ?_ ⟨vn, nm_r (e' := nI o) (by rw [e2, ho]) ?_⟩⟩⟩⟩⟩⟩
  · rw [e, ht]; exact nI_ne0 (by omega) (by omega)
  · rw [e2, hp, nI_1]; intro h; have := (nI_eq (by omega) (by omega)).mp h; omega
  · have e5 := nc_ (n := 3 * (112 * s + w) + i) (by omega)
    have k2 : wY_deliver_324 post v (nI (112 * s + w)) (nI n) (nI i) 0 yd yg yN yi yo yV yF yC (nI s) yft ybt res yer ypl ypr rn hs gv gt op a b pa fi nx yp wn wu gn ge wv yl ya ye yk yt yc yst yf yr ou := by
      refine br_t rfl ⟨?_, nm_r (e' := vp_updL yk (3 * (112 * s + w) + i) v) (by rw [ix_3, nI_add, e5]) ⟨v1, v1, nm_r (e' := upd ya (112 * s + w) (nI (i + 1))) (by rw [ei, ha, nI_1]) K⟩⟩
      rw [ix_3, nI_add]; exact vi_ (by omega) (by omega)
    rcases hd with h5 | h5 | h5
    · exact br_t (nI_lt (b := 5) h5 (by omega)) k2
    · exact br_f (nI_nlt (b := 5) (by omega) (by omega)) (br_t (nI_lt (a := 10) h5 (by omega)) k2)
    · subst h5
      exact br_f (by decide) (br_f (by decide) (br_f (by decide) (br_f (by decide) (br_f (by decide) (br_f (by decide) (br_t rfl k2))))))
theorem y_Dl {s w n i p o : Nat} {v : Int64} (h7 : s < 7) (ht : yt s = nI (w + 1)) (hw : w < 112) (hl : yl (112 * s + w) = nI n) (hn : n < 96) (ha : ya (112 * s + w) = nI i) (hp : yp n = nI p) (hi : i < 100) (hp9 : p < 100) (ho : op n = nI o) (hz : i + 1 = p) (hd : o < 5 ∨ 10 < o ∨ o = 9) (ho2 : o ≤ 21) (hi3 : i < 3 ∨ i + 1 = p) (K : wpY_apply post (yd, yg, yN, yi, yo, yV, yF, yC, (nI s), yft, ybt, res, yer, ypl, ypr, rn, hs, gv, gt, op, a, b, pa, fi, nx, yp, wn, wu, gn, ge, wv, yl, ya, ye, yk, yt, yc, yst, yf, yr, ou) (nI (112 * s + w)) (nI n) v) : wpY_deliver post (yd, yg, yN, yi, yo, yV, yF, yC, (nI s), yft, ybt, res, yer, ypl, ypr, rn, hs, gv, gt, op, a, b, pa, fi, nx, yp, wn, wu, gn, ge, wv, yl, ya, ye, yk, yt, yc, yst, yf, yr, ou) v := by
  have e := nc_ (n := s) (by omega)
  have ei := nc_ (n := 112 * s + w) (by omega)
  have e2 := nc_ (n := n) (by omega)
  have v7 := vi_ (n := s) (N := 7) h7 (by omega)
  have vn := vi_ (n := n) (N := 96) hn (by omega)
  have v1 := vi_ (n := 112 * s + w) (N := 784) (by omega) (by omega)
  refine ⟨v7, br_f ?_ ⟨v7, nm_r (e' := nI (112 * s + w)) (by rw [e, ht, ix_y]) ⟨v1, nm_r (e' := nI n) (by rw [ei, hl]) ⟨v1, nm_r (e' := nI i) (by rw [ei, ha]) ⟨vn, br_t ?_ ⟨vn, nm_r (e' := nI o) (by rw [e2, ho]) ?_⟩⟩⟩⟩⟩⟩
  · rw [e, ht]; exact nI_ne0 (by omega) (by omega)
  · rw [e2, hp, nI_1, hz]
  · have k2 : wY_deliver_324 post v (nI (112 * s + w)) (nI n) (nI i) 1 yd yg yN yi yo yV yF yC (nI s) yft ybt res yer ypl ypr rn hs gv gt op a b pa fi nx yp wn wu gn ge wv yl ya ye yk yt yc yst yf yr ou := br_f (by decide) K
    rcases hd with h5 | h5 | h5
    · exact br_t (nI_lt (b := 5) h5 (by omega)) k2
    · exact br_f (nI_nlt (b := 5) (by omega) (by omega)) (br_t (nI_lt (a := 10) h5 (by omega)) k2)
    · subst h5
      exact br_f (by decide) (br_f (by decide) (br_f (by decide) (br_f (by decide) (br_f (by decide) (br_f (by decide) (br_t rfl k2))))))
theorem y_5a {s w n i p o : Nat} {v : Int64} (h7 : s < 7) (ht : yt s = nI (w + 1)) (hw : w < 112) (hl : yl (112 * s + w) = nI n) (hn : n < 96) (ha : ya (112 * s + w) = nI i) (hp : yp n = nI p) (hi : i < 100) (hp9 : p < 100) (ho : op n = nI o) (hz : i + 1 ≠ p) (hd : o = 5) (h0 : i = 0) (hf : ∀ q_ : Int32 → Prop, q_ 0 → wpY_isFalse q_ (yd, yg, yN, yi, yo, yV, yF, yC, (nI s), yft, ybt, res, yer, ypl, ypr, rn, hs, gv, gt, op, a, b, pa, fi, nx, yp, wn, wu, gn, ge, wv, yl, ya, ye, yk, yt, yc, yst, yf, yr, ou) v) (K : post (yd, yg, yN, yi, yo, yV, yF, yC, (nI s), yft, ybt, res, yer, ypl, ypr, rn, hs, gv, gt, op, a, b, pa, fi, nx, yp, wn, wu, gn, ge, wv, yl, (upd ya (112 * s + w) 1), ye, yk, yt, yc, yst, yf, yr, ou)) : wpY_deliver post (yd, yg, yN, yi, yo, yV, yF, yC, (nI s), yft, ybt, res, yer, ypl, ypr, rn, hs, gv, gt, op, a, b, pa, fi, nx, yp, wn, wu, gn, ge, wv, yl, ya, ye, yk, yt, yc, yst, yf, yr, ou) v := by
  have e := nc_ (n := s) (by omega)
  have ei := nc_ (n := 112 * s + w) (by omega)
  have e2 := nc_ (n := n) (by omega)
  have v7 := vi_ (n := s) (N := 7) h7 (by omega)
  have vn := vi_ (n := n) (N := 96) hn (by omega)
  have v1 := vi_ (n := 112 * s + w) (N := 784) (by omega) (by omega)
  refine ⟨v7, br_f ?_ ⟨v7, nm_r (e' := nI (112 * s + w)) (by rw [e, ht, ix_y]) ⟨v1, nm_r (e' := nI n) (by rw [ei, hl]) ⟨v1, nm_r (e' := nI i) (by rw [ei, ha]) ⟨vn, br_f ?_ ⟨vn, nm_r (e' := nI o) (by rw [e2, ho]) ?_⟩⟩⟩⟩⟩⟩
  · rw [e, ht]; exact nI_ne0 (by omega) (by omega)
  · rw [e2, hp, nI_1]; intro h; have := (nI_eq (by omega) (by omega)).mp h; omega
  · subst hd
    exact (br_f (by decide) (br_f (by decide) (br_t rfl (br_t (by subst h0; decide) (hf _ (br_t rfl ⟨v1, nm_r (e' := upd ya (112 * s + w) 1) (by rw [ei]) K⟩))))))
theorem y_5b {s w n i p o : Nat} {v : Int64} (h7 : s < 7) (ht : yt s = nI (w + 1)) (hw : w < 112) (hl : yl (112 * s + w) = nI n) (hn : n < 96) (ha : ya (112 * s + w) = nI i) (hp : yp n = nI p) (hi : i < 100) (hp9 : p < 100) (ho : op n = nI o) (hz : i + 1 ≠ p) (hd : o = 5) (h0 : i = 0) (hf : ∀ q_ : Int32 → Prop, q_ 1 → wpY_isFalse q_ (yd, yg, yN, yi, yo, yV, yF, yC, (nI s), yft, ybt, res, yer, ypl, ypr, rn, hs, gv, gt, op, a, b, pa, fi, nx, yp, wn, wu, gn, ge, wv, yl, ya, ye, yk, yt, yc, yst, yf, yr, ou) v) (K : post (yd, yg, yN, yi, yo, yV, yF, yC, (nI s), yft, ybt, res, yer, ypl, ypr, rn, hs, gv, gt, op, a, b, pa, fi, nx, yp, wn, wu, gn, ge, wv, yl, (upd ya (112 * s + w) 2), ye, yk, yt, yc, yst, yf, yr, ou)) : wpY_deliver post (yd, yg, yN, yi, yo, yV, yF, yC, (nI s), yft, ybt, res, yer, ypl, ypr, rn, hs, gv, gt, op, a, b, pa, fi, nx, yp, wn, wu, gn, ge, wv, yl, ya, ye, yk, yt, yc, yst, yf, yr, ou) v := by
  have e := nc_ (n := s) (by omega)
  have ei := nc_ (n := 112 * s + w) (by omega)
  have e2 := nc_ (n := n) (by omega)
  have v7 := vi_ (n := s) (N := 7) h7 (by omega)
  have vn := vi_ (n := n) (N := 96) hn (by omega)
  have v1 := vi_ (n := 112 * s + w) (N := 784) (by omega) (by omega)
  refine ⟨v7, br_f ?_ ⟨v7, nm_r (e' := nI (112 * s + w)) (by rw [e, ht, ix_y]) ⟨v1, nm_r (e' := nI n) (by rw [ei, hl]) ⟨v1, nm_r (e' := nI i) (by rw [ei, ha]) ⟨vn, br_f ?_ ⟨vn, nm_r (e' := nI o) (by rw [e2, ho]) ?_⟩⟩⟩⟩⟩⟩
  · rw [e, ht]; exact nI_ne0 (by omega) (by omega)
  · rw [e2, hp, nI_1]; intro h; have := (nI_eq (by omega) (by omega)).mp h; omega
  · subst hd
    exact (br_f (by decide) (br_f (by decide) (br_t rfl (br_t (by subst h0; decide) (hf _ (br_f (by decide) ⟨v1, nm_r (e' := upd ya (112 * s + w) 2) (by rw [ei]) K⟩))))))
theorem y_5c0 {s w n i p o : Nat} {v : Int64} (h7 : s < 7) (ht : yt s = nI (w + 1)) (hw : w < 112) (hl : yl (112 * s + w) = nI n) (hn : n < 96) (ha : ya (112 * s + w) = nI i) (hp : yp n = nI p) (hi : i < 100) (hp9 : p < 100) (ho : op n = nI o) (hz : i + 1 ≠ p) (hd : o = 5) (h0 : 0 < i) (K : wpY_finish post (yd, yg, yN, yi, yo, yV, yF, yC, (nI s), yft, ybt, res, yer, ypl, ypr, rn, hs, gv, gt, op, a, b, pa, fi, nx, yp, wn, wu, gn, ge, wv, yl, ya, ye, yk, yt, yc, yst, yf, yr, ou) v) : wpY_deliver post (yd, yg, yN, yi, yo, yV, yF, yC, (nI s), yft, ybt, res, yer, ypl, ypr, rn, hs, gv, gt, op, a, b, pa, fi, nx, yp, wn, wu, gn, ge, wv, yl, ya, ye, yk, yt, yc, yst, yf, yr, ou) v := by
  have e := nc_ (n := s) (by omega)
  have ei := nc_ (n := 112 * s + w) (by omega)
  have e2 := nc_ (n := n) (by omega)
  have v7 := vi_ (n := s) (N := 7) h7 (by omega)
  have vn := vi_ (n := n) (N := 96) hn (by omega)
  have v1 := vi_ (n := 112 * s + w) (N := 784) (by omega) (by omega)
  refine ⟨v7, br_f ?_ ⟨v7, nm_r (e' := nI (112 * s + w)) (by rw [e, ht, ix_y]) ⟨v1, nm_r (e' := nI n) (by rw [ei, hl]) ⟨v1, nm_r (e' := nI i) (by rw [ei, ha]) ⟨vn, br_f ?_ ⟨vn, nm_r (e' := nI o) (by rw [e2, ho]) ?_⟩⟩⟩⟩⟩⟩
  · rw [e, ht]; exact nI_ne0 (by omega) (by omega)
  · rw [e2, hp, nI_1]; intro h; have := (nI_eq (by omega) (by omega)).mp h; omega
  · subst hd
    exact (br_f (by decide) (br_f (by decide) (br_t rfl (br_f (nI_nle h0 (by omega)) K))))
theorem y_5c1 {s w n i p o : Nat} {v : Int64} (h7 : s < 7) (ht : yt s = nI (w + 1)) (hw : w < 112) (hl : yl (112 * s + w) = nI n) (hn : n < 96) (ha : ya (112 * s + w) = nI i) (hp : yp n = nI p) (hi : i < 100) (hp9 : p < 100) (ho : op n = nI o) (hz : i + 1 = p) (hd : o = 5) (h0 : 0 < i) (K : wpY_finish post (yd, yg, yN, yi, yo, yV, yF, yC, (nI s), yft, ybt, res, yer, ypl, ypr, rn, hs, gv, gt, op, a, b, pa, fi, nx, yp, wn, wu, gn, ge, wv, yl, ya, ye, yk, yt, yc, yst, yf, yr, ou) v) : wpY_deliver post (yd, yg, yN, yi, yo, yV, yF, yC, (nI s), yft, ybt, res, yer, ypl, ypr, rn, hs, gv, gt, op, a, b, pa, fi, nx, yp, wn, wu, gn, ge, wv, yl, ya, ye, yk, yt, yc, yst, yf, yr, ou) v := by
  have e := nc_ (n := s) (by omega)
  have ei := nc_ (n := 112 * s + w) (by omega)
  have e2 := nc_ (n := n) (by omega)
  have v7 := vi_ (n := s) (N := 7) h7 (by omega)
  have vn := vi_ (n := n) (N := 96) hn (by omega)
  have v1 := vi_ (n := 112 * s + w) (N := 784) (by omega) (by omega)
  refine ⟨v7, br_f ?_ ⟨v7, nm_r (e' := nI (112 * s + w)) (by rw [e, ht, ix_y]) ⟨v1, nm_r (e' := nI n) (by rw [ei, hl]) ⟨v1, nm_r (e' := nI i) (by rw [ei, ha]) ⟨vn, br_t ?_ ⟨vn, nm_r (e' := nI o) (by rw [e2, ho]) ?_⟩⟩⟩⟩⟩⟩
  · rw [e, ht]; exact nI_ne0 (by omega) (by omega)
  · rw [e2, hp, nI_1, hz]
  · subst hd
    exact (br_f (by decide) (br_f (by decide) (br_t rfl (br_f (nI_nle h0 (by omega)) K))))
theorem y_6n {s w n i p o : Nat} {v : Int64} (h7 : s < 7) (ht : yt s = nI (w + 1)) (hw : w < 112) (hl : yl (112 * s + w) = nI n) (hn : n < 96) (ha : ya (112 * s + w) = nI i) (hp : yp n = nI p) (hi : i < 100) (hp9 : p < 100) (ho : op n = nI o) (hz : i + 1 ≠ p) (hd : o = 6) (K : post (yd, yg, yN, yi, yo, yV, yF, yC, (nI s), yft, ybt, res, yer, ypl, ypr, rn, hs, gv, gt, op, a, b, pa, fi, nx, yp, wn, wu, gn, ge, wv, yl, (upd ya (112 * s + w) (nI (i + 1))), ye, yk, yt, yc, yst, yf, yr, ou)) : wpY_deliver post (yd, yg, yN, yi, yo, yV, yF, yC, (nI s), yft, ybt, res, yer, ypl, ypr, rn, hs, gv, gt, op, a, b, pa, fi, nx, yp, wn, wu, gn, ge, wv, yl, ya, ye, yk, yt, yc, yst, yf, yr, ou) v := by
  have e := nc_ (n := s) (by omega)
  have ei := nc_ (n := 112 * s + w) (by omega)
  have e2 := nc_ (n := n) (by omega)
  have v7 := vi_ (n := s) (N := 7) h7 (by omega)
  have vn := vi_ (n := n) (N := 96) hn (by omega)
  have v1 := vi_ (n := 112 * s + w) (N := 784) (by omega) (by omega)
  refine ⟨v7, br_f ?_ ⟨v7, nm_r (e' := nI (112 * s + w)) (by rw [e, ht, ix_y]) ⟨v1, nm_r (e' := nI n) (by rw [ei, hl]) ⟨v1, nm_r (e' := nI i) (by rw [ei, ha]) ⟨vn, br_f ?_ ⟨vn, nm_r (e' := nI o) (by rw [e2, ho]) ?_⟩⟩⟩⟩⟩⟩
  · rw [e, ht]; exact nI_ne0 (by omega) (by omega)
  · rw [e2, hp, nI_1]; intro h; have := (nI_eq (by omega) (by omega)).mp h; omega
  · subst hd
    exact (br_f (by decide) (br_f (by decide) (br_f (by decide) (br_t rfl ⟨v1, v1, nm_r (e' := upd ya (112 * s + w) (nI (i + 1))) (by rw [ei, ha, nI_1]) (br_t rfl K)⟩))))
theorem y_6l {s w n i p o : Nat} {v : Int64} (h7 : s < 7) (ht : yt s = nI (w + 1)) (hw : w < 112) (hl : yl (112 * s + w) = nI n) (hn : n < 96) (ha : ya (112 * s + w) = nI i) (hp : yp n = nI p) (hi : i < 100) (hp9 : p < 100) (ho : op n = nI o) (hz : i + 1 = p) (hd : o = 6) (K : wpY_finish post (yd, yg, yN, yi, yo, yV, yF, yC, (nI s), yft, ybt, res, yer, ypl, ypr, rn, hs, gv, gt, op, a, b, pa, fi, nx, yp, wn, wu, gn, ge, wv, yl, (upd ya (112 * s + w) (nI (i + 1))), ye, yk, yt, yc, yst, yf, yr, ou) v) : wpY_deliver post (yd, yg, yN, yi, yo, yV, yF, yC, (nI s), yft, ybt, res, yer, ypl, ypr, rn, hs, gv, gt, op, a, b, pa, fi, nx, yp, wn, wu, gn, ge, wv, yl, ya, ye, yk, yt, yc, yst, yf, yr, ou) v := by
  have e := nc_ (n := s) (by omega)
  have ei := nc_ (n := 112 * s + w) (by omega)
  have e2 := nc_ (n := n) (by omega)
  have v7 := vi_ (n := s) (N := 7) h7 (by omega)
  have vn := vi_ (n := n) (N := 96) hn (by omega)
  have v1 := vi_ (n := 112 * s + w) (N := 784) (by omega) (by omega)
  refine ⟨v7, br_f ?_ ⟨v7, nm_r (e' := nI (112 * s + w)) (by rw [e, ht, ix_y]) ⟨v1, nm_r (e' := nI n) (by rw [ei, hl]) ⟨v1, nm_r (e' := nI i) (by rw [ei, ha]) ⟨vn, br_t ?_ ⟨vn, nm_r (e' := nI o) (by rw [e2, ho]) ?_⟩⟩⟩⟩⟩⟩
  · rw [e, ht]; exact nI_ne0 (by omega) (by omega)
  · rw [e2, hp, nI_1, hz]
  · subst hd
    exact (br_f (by decide) (br_f (by decide) (br_f (by decide) (br_t rfl ⟨v1, v1, nm_r (e' := upd ya (112 * s + w) (nI (i + 1))) (by rw [ei, ha, nI_1]) (br_f (by decide) K)⟩))))
theorem y_10n {s w n i p o : Nat} {v : Int64} (h7 : s < 7) (ht : yt s = nI (w + 1)) (hw : w < 112) (hl : yl (112 * s + w) = nI n) (hn : n < 96) (ha : ya (112 * s + w) = nI i) (hp : yp n = nI p) (hi : i < 100) (hp9 : p < 100) (ho : op n = nI o) (hz : i + 1 ≠ p) (hd : o = 10) (K : post (yd, yg, yN, yi, yo, yV, yF, yC, (nI s), yft, ybt, res, yer, ypl, ypr, rn, hs, gv, gt, op, a, b, pa, fi, nx, yp, wn, wu, gn, ge, wv, yl, (upd ya (112 * s + w) (nI (i + 1))), ye, yk, yt, yc, yst, yf, yr, ou)) : wpY_deliver post (yd, yg, yN, yi, yo, yV, yF, yC, (nI s), yft, ybt, res, yer, ypl, ypr, rn, hs, gv, gt, op, a, b, pa, fi, nx, yp, wn, wu, gn, ge, wv, yl, ya, ye, yk, yt, yc, yst, yf, yr, ou) v := by
  have e := nc_ (n := s) (by omega)
  have ei := nc_ (n := 112 * s + w) (by omega)
  have e2 := nc_ (n := n) (by omega)
  have v7 := vi_ (n := s) (N := 7) h7 (by omega)
  have vn := vi_ (n := n) (N := 96) hn (by omega)
  have v1 := vi_ (n := 112 * s + w) (N := 784) (by omega) (by omega)
  refine ⟨v7, br_f ?_ ⟨v7, nm_r (e' := nI (112 * s + w)) (by rw [e, ht, ix_y]) ⟨v1, nm_r (e' := nI n) (by rw [ei, hl]) ⟨v1, nm_r (e' := nI i) (by rw [ei, ha]) ⟨vn, br_f ?_ ⟨vn, nm_r (e' := nI o) (by rw [e2, ho]) ?_⟩⟩⟩⟩⟩⟩
  · rw [e, ht]; exact nI_ne0 (by omega) (by omega)
  · rw [e2, hp, nI_1]; intro h; have := (nI_eq (by omega) (by omega)).mp h; omega
  · subst hd
    exact (br_f (by decide) (br_f (by decide) (br_f (by decide) (br_f (by decide) (br_f (by decide) (br_f (by decide) (br_f (by decide) (br_t rfl ⟨v1, v1, nm_r (e' := upd ya (112 * s + w) (nI (i + 1))) (by rw [ei, ha, nI_1]) (br_t rfl K)⟩))))))))
theorem y_10l {s w n i p o : Nat} {v : Int64} (h7 : s < 7) (ht : yt s = nI (w + 1)) (hw : w < 112) (hl : yl (112 * s + w) = nI n) (hn : n < 96) (ha : ya (112 * s + w) = nI i) (hp : yp n = nI p) (hi : i < 100) (hp9 : p < 100) (ho : op n = nI o) (hz : i + 1 = p) (hd : o = 10) (K : wpY_finish post (yd, yg, yN, yi, yo, yV, yF, yC, (nI s), yft, ybt, res, yer, ypl, ypr, rn, hs, gv, gt, op, a, b, pa, fi, nx, yp, wn, wu, gn, ge, wv, yl, (upd ya (112 * s + w) (nI (i + 1))), ye, yk, yt, yc, yst, yf, yr, ou) v) : wpY_deliver post (yd, yg, yN, yi, yo, yV, yF, yC, (nI s), yft, ybt, res, yer, ypl, ypr, rn, hs, gv, gt, op, a, b, pa, fi, nx, yp, wn, wu, gn, ge, wv, yl, ya, ye, yk, yt, yc, yst, yf, yr, ou) v := by
  have e := nc_ (n := s) (by omega)
  have ei := nc_ (n := 112 * s + w) (by omega)
  have e2 := nc_ (n := n) (by omega)
  have v7 := vi_ (n := s) (N := 7) h7 (by omega)
  have vn := vi_ (n := n) (N := 96) hn (by omega)
  have v1 := vi_ (n := 112 * s + w) (N := 784) (by omega) (by omega)
  refine ⟨v7, br_f ?_ ⟨v7, nm_r (e' := nI (112 * s + w)) (by rw [e, ht, ix_y]) ⟨v1, nm_r (e' := nI n) (by rw [ei, hl]) ⟨v1, nm_r (e' := nI i) (by rw [ei, ha]) ⟨vn, br_t ?_ ⟨vn, nm_r (e' := nI o) (by rw [e2, ho]) ?_⟩⟩⟩⟩⟩⟩
  · rw [e, ht]; exact nI_ne0 (by omega) (by omega)
  · rw [e2, hp, nI_1, hz]
  · subst hd
    exact (br_f (by decide) (br_f (by decide) (br_f (by decide) (br_f (by decide) (br_f (by decide) (br_f (by decide) (br_f (by decide) (br_t rfl ⟨v1, v1, nm_r (e' := upd ya (112 * s + w) (nI (i + 1))) (by rw [ei, ha, nI_1]) (br_f (by decide) K)⟩))))))))
theorem y_7a0 {s w n i p o : Nat} {v : Int64} (h7 : s < 7) (ht : yt s = nI (w + 1)) (hw : w < 112) (hl : yl (112 * s + w) = nI n) (hn : n < 96) (ha : ya (112 * s + w) = nI i) (hp : yp n = nI p) (hi : i < 100) (hp9 : p < 100) (ho : op n = nI o) (hz : i + 1 ≠ p) (hd : o = 7) (h0 : i = 0) (hf : ∀ q_ : Int32 → Prop, q_ 1 → wpY_isFalse q_ (yd, yg, yN, yi, yo, yV, yF, yC, (nI s), yft, ybt, res, yer, ypl, ypr, rn, hs, gv, gt, op, a, b, pa, fi, nx, yp, wn, wu, gn, ge, wv, yl, ya, ye, yk, yt, yc, yst, yf, yr, ou) v) (K : wpY_finish post (yd, yg, yN, yi, yo, yV, yF, yC, (nI s), yft, ybt, res, yer, ypl, ypr, rn, hs, gv, gt, op, a, b, pa, fi, nx, yp, wn, wu, gn, ge, wv, yl, ya, ye, yk, yt, yc, yst, yf, yr, ou) 4294967296) : wpY_deliver post (yd, yg, yN, yi, yo, yV, yF, yC, (nI s), yft, ybt, res, yer, ypl, ypr, rn, hs, gv, gt, op, a, b, pa, fi, nx, yp, wn, wu, gn, ge, wv, yl, ya, ye, yk, yt, yc, yst, yf, yr, ou) v := by
  have e := nc_ (n := s) (by omega)
  have ei := nc_ (n := 112 * s + w) (by omega)
  have e2 := nc_ (n := n) (by omega)
  have v7 := vi_ (n := s) (N := 7) h7 (by omega)
  have vn := vi_ (n := n) (N := 96) hn (by omega)
  have v1 := vi_ (n := 112 * s + w) (N := 784) (by omega) (by omega)
  refine ⟨v7, br_f ?_ ⟨v7, nm_r (e' := nI (112 * s + w)) (by rw [e, ht, ix_y]) ⟨v1, nm_r (e' := nI n) (by rw [ei, hl]) ⟨v1, nm_r (e' := nI i) (by rw [ei, ha]) ⟨vn, br_f ?_ ⟨vn, nm_r (e' := nI o) (by rw [e2, ho]) ?_⟩⟩⟩⟩⟩⟩
  · rw [e, ht]; exact nI_ne0 (by omega) (by omega)
  · rw [e2, hp, nI_1]; intro h; have := (nI_eq (by omega) (by omega)).mp h; omega
  · subst hd
    exact (br_f (by decide) (br_f (by decide) (br_f (by decide) (br_f (by decide) (br_t rfl (br_t (by subst h0; rfl) (hf _ (br_f (by decide) K))))))))
theorem y_7a1 {s w n i p o : Nat} {v : Int64} (h7 : s < 7) (ht : yt s = nI (w + 1)) (hw : w < 112) (hl : yl (112 * s + w) = nI n) (hn : n < 96) (ha : ya (112 * s + w) = nI i) (hp : yp n = nI p) (hi : i < 100) (hp9 : p < 100) (ho : op n = nI o) (hz : i + 1 = p) (hd : o = 7) (h0 : i = 0) (hf : ∀ q_ : Int32 → Prop, q_ 1 → wpY_isFalse q_ (yd, yg, yN, yi, yo, yV, yF, yC, (nI s), yft, ybt, res, yer, ypl, ypr, rn, hs, gv, gt, op, a, b, pa, fi, nx, yp, wn, wu, gn, ge, wv, yl, ya, ye, yk, yt, yc, yst, yf, yr, ou) v) (K : wpY_finish post (yd, yg, yN, yi, yo, yV, yF, yC, (nI s), yft, ybt, res, yer, ypl, ypr, rn, hs, gv, gt, op, a, b, pa, fi, nx, yp, wn, wu, gn, ge, wv, yl, ya, ye, yk, yt, yc, yst, yf, yr, ou) 4294967296) : wpY_deliver post (yd, yg, yN, yi, yo, yV, yF, yC, (nI s), yft, ybt, res, yer, ypl, ypr, rn, hs, gv, gt, op, a, b, pa, fi, nx, yp, wn, wu, gn, ge, wv, yl, ya, ye, yk, yt, yc, yst, yf, yr, ou) v := by
  have e := nc_ (n := s) (by omega)
  have ei := nc_ (n := 112 * s + w) (by omega)
  have e2 := nc_ (n := n) (by omega)
  have v7 := vi_ (n := s) (N := 7) h7 (by omega)
  have vn := vi_ (n := n) (N := 96) hn (by omega)
  have v1 := vi_ (n := 112 * s + w) (N := 784) (by omega) (by omega)
  refine ⟨v7, br_f ?_ ⟨v7, nm_r (e' := nI (112 * s + w)) (by rw [e, ht, ix_y]) ⟨v1, nm_r (e' := nI n) (by rw [ei, hl]) ⟨v1, nm_r (e' := nI i) (by rw [ei, ha]) ⟨vn, br_t ?_ ⟨vn, nm_r (e' := nI o) (by rw [e2, ho]) ?_⟩⟩⟩⟩⟩⟩
  · rw [e, ht]; exact nI_ne0 (by omega) (by omega)
  · rw [e2, hp, nI_1, hz]
  · subst hd
    exact (br_f (by decide) (br_f (by decide) (br_f (by decide) (br_f (by decide) (br_t rfl (br_t (by subst h0; rfl) (hf _ (br_f (by decide) K))))))))
theorem y_7n0 {s w n i p o : Nat} {v : Int64} (h7 : s < 7) (ht : yt s = nI (w + 1)) (hw : w < 112) (hl : yl (112 * s + w) = nI n) (hn : n < 96) (ha : ya (112 * s + w) = nI i) (hp : yp n = nI p) (hi : i < 100) (hp9 : p < 100) (ho : op n = nI o) (hz : i + 1 ≠ p) (hd : o = 7) (h0 : i = 0) (hf : ∀ q_ : Int32 → Prop, q_ 0 → wpY_isFalse q_ (yd, yg, yN, yi, yo, yV, yF, yC, (nI s), yft, ybt, res, yer, ypl, ypr, rn, hs, gv, gt, op, a, b, pa, fi, nx, yp, wn, wu, gn, ge, wv, yl, ya, ye, yk, yt, yc, yst, yf, yr, ou) v) (K : post (yd, yg, yN, yi, yo, yV, yF, yC, (nI s), yft, ybt, res, yer, ypl, ypr, rn, hs, gv, gt, op, a, b, pa, fi, nx, yp, wn, wu, gn, ge, wv, yl, (upd ya (112 * s + w) (nI (i + 1))), ye, yk, yt, yc, yst, yf, yr, ou)) : wpY_deliver post (yd, yg, yN, yi, yo, yV, yF, yC, (nI s), yft, ybt, res, yer, ypl, ypr, rn, hs, gv, gt, op, a, b, pa, fi, nx, yp, wn, wu, gn, ge, wv, yl, ya, ye, yk, yt, yc, yst, yf, yr, ou) v := by
  have e := nc_ (n := s) (by omega)
  have ei := nc_ (n := 112 * s + w) (by omega)
  have e2 := nc_ (n := n) (by omega)
  have v7 := vi_ (n := s) (N := 7) h7 (by omega)
  have vn := vi_ (n := n) (N := 96) hn (by omega)
  have v1 := vi_ (n := 112 * s + w) (N := 784) (by omega) (by omega)
  refine ⟨v7, br_f ?_ ⟨v7, nm_r (e' := nI (112 * s + w)) (by rw [e, ht, ix_y]) ⟨v1, nm_r (e' := nI n) (by rw [ei, hl]) ⟨v1, nm_r (e' := nI i) (by rw [ei, ha]) ⟨vn, br_f ?_ ⟨vn, nm_r (e' := nI o) (by rw [e2, ho]) ?_⟩⟩⟩⟩⟩⟩
  · rw [e, ht]; exact nI_ne0 (by omega) (by omega)
  · rw [e2, hp, nI_1]; intro h; have := (nI_eq (by omega) (by omega)).mp h; omega
  · subst hd
    exact (br_f (by decide) (br_f (by decide) (br_f (by decide) (br_f (by decide) (br_t rfl (br_t (by subst h0; rfl) (hf _ (br_t rfl (br_t rfl ⟨v1, v1, nm_r (e' := upd ya (112 * s + w) (nI (i + 1))) (by rw [ei, ha, nI_1]) K⟩)))))))))
theorem y_7n1 {s w n i p o : Nat} {v : Int64} (h7 : s < 7) (ht : yt s = nI (w + 1)) (hw : w < 112) (hl : yl (112 * s + w) = nI n) (hn : n < 96) (ha : ya (112 * s + w) = nI i) (hp : yp n = nI p) (hi : i < 100) (hp9 : p < 100) (ho : op n = nI o) (hz : i + 1 ≠ p) (hd : o = 7) (h0 : 0 < i) (K : post (yd, yg, yN, yi, yo, yV, yF, yC, (nI s), yft, ybt, res, yer, ypl, ypr, rn, hs, gv, gt, op, a, b, pa, fi, nx, yp, wn, wu, gn, ge, wv, yl, (upd ya (112 * s + w) (nI (i + 1))), ye, yk, yt, yc, yst, yf, yr, ou)) : wpY_deliver post (yd, yg, yN, yi, yo, yV, yF, yC, (nI s), yft, ybt, res, yer, ypl, ypr, rn, hs, gv, gt, op, a, b, pa, fi, nx, yp, wn, wu, gn, ge, wv, yl, ya, ye, yk, yt, yc, yst, yf, yr, ou) v := by
  have e := nc_ (n := s) (by omega)
  have ei := nc_ (n := 112 * s + w) (by omega)
  have e2 := nc_ (n := n) (by omega)
  have v7 := vi_ (n := s) (N := 7) h7 (by omega)
  have vn := vi_ (n := n) (N := 96) hn (by omega)
  have v1 := vi_ (n := 112 * s + w) (N := 784) (by omega) (by omega)
  refine ⟨v7, br_f ?_ ⟨v7, nm_r (e' := nI (112 * s + w)) (by rw [e, ht, ix_y]) ⟨v1, nm_r (e' := nI n) (by rw [ei, hl]) ⟨v1, nm_r (e' := nI i) (by rw [ei, ha]) ⟨vn, br_f ?_ ⟨vn, nm_r (e' := nI o) (by rw [e2, ho]) ?_⟩⟩⟩⟩⟩⟩
  · rw [e, ht]; exact nI_ne0 (by omega) (by omega)
  · rw [e2, hp, nI_1]; intro h; have := (nI_eq (by omega) (by omega)).mp h; omega
  · subst hd
    exact (br_f (by decide) (br_f (by decide) (br_f (by decide) (br_f (by decide) (br_t rfl (br_f (nI_ne0 h0 (by omega)) (br_t rfl ⟨v1, v1, nm_r (e' := upd ya (112 * s + w) (nI (i + 1))) (by rw [ei, ha, nI_1]) K⟩)))))))
theorem y_7l01 {q g : Nat} (hq : q < g) (hg : g < 1000) {s w n i p o : Nat} {v : Int64} (h7 : s < 7) (ht : yt s = nI (w + 1)) (hw : w < 112) (hl : yl (112 * s + w) = nI n) (hn : n < 96) (ha : ya (112 * s + w) = nI i) (hp : yp n = nI p) (hi : i < 100) (hp9 : p < 100) (ho : op n = nI o) (hz : i + 1 = p) (hd : o = 7) (h0 : i = 0) (hf : ∀ q_ : Int32 → Prop, q_ 0 → wpY_isFalse q_ (yd, (nI g), yN, yi, yo, yV, yF, yC, (nI s), yft, (nI q), res, yer, ypl, ypr, rn, hs, gv, gt, op, a, b, pa, fi, nx, yp, wn, wu, gn, ge, wv, yl, ya, ye, yk, yt, yc, yst, yf, yr, ou) v) (K : post (yd, (nI g), yN, yi, yo, yV, yF, yC, (nI s), yft, (nI (q + 1)), res, yer, ypl, ypr, rn, hs, gv, gt, op, a, b, pa, fi, nx, yp, wn, wu, gn, ge, wv, yl, (upd ya (112 * s + w) 0), ye, yk, yt, yc, yst, yf, yr, ou)) : wpY_deliver post (yd, (nI g), yN, yi, yo, yV, yF, yC, (nI s), yft, (nI q), res, yer, ypl, ypr, rn, hs, gv, gt, op, a, b, pa, fi, nx, yp, wn, wu, gn, ge, wv, yl, ya, ye, yk, yt, yc, yst, yf, yr, ou) v := by
  have e := nc_ (n := s) (by omega)
  have ei := nc_ (n := 112 * s + w) (by omega)
  have e2 := nc_ (n := n) (by omega)
  have v7 := vi_ (n := s) (N := 7) h7 (by omega)
  have vn := vi_ (n := n) (N := 96) hn (by omega)
  have v1 := vi_ (n := 112 * s + w) (N := 784) (by omega) (by omega)
  refine ⟨v7, br_f ?_ ⟨v7, nm_r (e' := nI (112 * s + w)) (by rw [e, ht, ix_y]) ⟨v1, nm_r (e' := nI n) (by rw [ei, hl]) ⟨v1, nm_r (e' := nI i) (by rw [ei, ha]) ⟨vn, br_t ?_ ⟨vn, nm_r (e' := nI o) (by rw [e2, ho]) ?_⟩⟩⟩⟩⟩⟩
  · rw [e, ht]; exact nI_ne0 (by omega) (by omega)
  · rw [e2, hp, nI_1, hz]
  · subst hd
    exact (br_f (by decide) (br_f (by decide) (br_f (by decide) (br_f (by decide) (br_t rfl (br_t (by subst h0; rfl) (hf _ (br_t rfl (br_f (by decide) (y_beat1 hq hg (br_f (by decide) ⟨v1, nm_r (e' := upd ya (112 * s + w) 0) (by rw [ei]) K⟩)))))))))))
theorem y_7l11 {q g : Nat} (hq : q < g) (hg : g < 1000) {s w n i p o : Nat} {v : Int64} (h7 : s < 7) (ht : yt s = nI (w + 1)) (hw : w < 112) (hl : yl (112 * s + w) = nI n) (hn : n < 96) (ha : ya (112 * s + w) = nI i) (hp : yp n = nI p) (hi : i < 100) (hp9 : p < 100) (ho : op n = nI o) (hz : i + 1 = p) (hd : o = 7) (h0 : 0 < i) (K : post (yd, (nI g), yN, yi, yo, yV, yF, yC, (nI s), yft, (nI (q + 1)), res, yer, ypl, ypr, rn, hs, gv, gt, op, a, b, pa, fi, nx, yp, wn, wu, gn, ge, wv, yl, (upd ya (112 * s + w) 0), ye, yk, yt, yc, yst, yf, yr, ou)) : wpY_deliver post (yd, (nI g), yN, yi, yo, yV, yF, yC, (nI s), yft, (nI q), res, yer, ypl, ypr, rn, hs, gv, gt, op, a, b, pa, fi, nx, yp, wn, wu, gn, ge, wv, yl, ya, ye, yk, yt, yc, yst, yf, yr, ou) v := by
  have e := nc_ (n := s) (by omega)
  have ei := nc_ (n := 112 * s + w) (by omega)
  have e2 := nc_ (n := n) (by omega)
  have v7 := vi_ (n := s) (N := 7) h7 (by omega)
  have vn := vi_ (n := n) (N := 96) hn (by omega)
  have v1 := vi_ (n := 112 * s + w) (N := 784) (by omega) (by omega)
  refine ⟨v7, br_f ?_ ⟨v7, nm_r (e' := nI (112 * s + w)) (by rw [e, ht, ix_y]) ⟨v1, nm_r (e' := nI n) (by rw [ei, hl]) ⟨v1, nm_r (e' := nI i) (by rw [ei, ha]) ⟨vn, br_t ?_ ⟨vn, nm_r (e' := nI o) (by rw [e2, ho]) ?_⟩⟩⟩⟩⟩⟩
  · rw [e, ht]; exact nI_ne0 (by omega) (by omega)
  · rw [e2, hp, nI_1, hz]
  · subst hd
    exact (br_f (by decide) (br_f (by decide) (br_f (by decide) (br_f (by decide) (br_t rfl (br_f (nI_ne0 h0 (by omega)) (br_f (by decide) (y_beat1 hq hg (br_f (by decide) ⟨v1, nm_r (e' := upd ya (112 * s + w) 0) (by rw [ei]) K⟩)))))))))
theorem y_7l00 {g : Nat} {s w n i p o : Nat} {v : Int64} (h7 : s < 7) (ht : yt s = nI (w + 1)) (hw : w < 112) (hl : yl (112 * s + w) = nI n) (hn : n < 96) (ha : ya (112 * s + w) = nI i) (hp : yp n = nI p) (hi : i < 100) (hp9 : p < 100) (ho : op n = nI o) (hz : i + 1 = p) (hd : o = 7) (h0 : i = 0) (hf : ∀ q_ : Int32 → Prop, q_ 0 → wpY_isFalse q_ (yd, (nI g), yN, yi, yo, yV, yF, yC, (nI s), yft, (nI g), res, yer, ypl, ypr, rn, hs, gv, gt, op, a, b, pa, fi, nx, yp, wn, wu, gn, ge, wv, yl, ya, ye, yk, yt, yc, yst, yf, yr, ou) v) (K : post (yd, (nI g), yN, yi, yo, yV, yF, yC, (nI s), yft, (nI g), 2, yer, ypl, ypr, 0, hs, 4294967296, gt, op, a, b, pa, fi, nx, yp, wn, wu, gn, ge, wv, yl, ya, ye, yk, yt, yc, yst, yf, yr, ou)) : wpY_deliver post (yd, (nI g), yN, yi, yo, yV, yF, yC, (nI s), yft, (nI g), res, yer, ypl, ypr, rn, hs, gv, gt, op, a, b, pa, fi, nx, yp, wn, wu, gn, ge, wv, yl, ya, ye, yk, yt, yc, yst, yf, yr, ou) v := by
  have e := nc_ (n := s) (by omega)
  have ei := nc_ (n := 112 * s + w) (by omega)
  have e2 := nc_ (n := n) (by omega)
  have v7 := vi_ (n := s) (N := 7) h7 (by omega)
  have vn := vi_ (n := n) (N := 96) hn (by omega)
  have v1 := vi_ (n := 112 * s + w) (N := 784) (by omega) (by omega)
  refine ⟨v7, br_f ?_ ⟨v7, nm_r (e' := nI (112 * s + w)) (by rw [e, ht, ix_y]) ⟨v1, nm_r (e' := nI n) (by rw [ei, hl]) ⟨v1, nm_r (e' := nI i) (by rw [ei, ha]) ⟨vn, br_t ?_ ⟨vn, nm_r (e' := nI o) (by rw [e2, ho]) ?_⟩⟩⟩⟩⟩⟩
  · rw [e, ht]; exact nI_ne0 (by omega) (by omega)
  · rw [e2, hp, nI_1, hz]
  · subst hd
    exact (br_f (by decide) (br_f (by decide) (br_f (by decide) (br_f (by decide) (br_t rfl (br_t (by subst h0; rfl) (hf _ (br_t rfl (br_f (by decide) (y_beat0 (br_t rfl K)))))))))))
theorem y_7l10 {g : Nat} {s w n i p o : Nat} {v : Int64} (h7 : s < 7) (ht : yt s = nI (w + 1)) (hw : w < 112) (hl : yl (112 * s + w) = nI n) (hn : n < 96) (ha : ya (112 * s + w) = nI i) (hp : yp n = nI p) (hi : i < 100) (hp9 : p < 100) (ho : op n = nI o) (hz : i + 1 = p) (hd : o = 7) (h0 : 0 < i) (K : post (yd, (nI g), yN, yi, yo, yV, yF, yC, (nI s), yft, (nI g), 2, yer, ypl, ypr, 0, hs, 4294967296, gt, op, a, b, pa, fi, nx, yp, wn, wu, gn, ge, wv, yl, ya, ye, yk, yt, yc, yst, yf, yr, ou)) : wpY_deliver post (yd, (nI g), yN, yi, yo, yV, yF, yC, (nI s), yft, (nI g), res, yer, ypl, ypr, rn, hs, gv, gt, op, a, b, pa, fi, nx, yp, wn, wu, gn, ge, wv, yl, ya, ye, yk, yt, yc, yst, yf, yr, ou) v := by
  have e := nc_ (n := s) (by omega)
  have ei := nc_ (n := 112 * s + w) (by omega)
  have e2 := nc_ (n := n) (by omega)
  have v7 := vi_ (n := s) (N := 7) h7 (by omega)
  have vn := vi_ (n := n) (N := 96) hn (by omega)
  have v1 := vi_ (n := 112 * s + w) (N := 784) (by omega) (by omega)
  refine ⟨v7, br_f ?_ ⟨v7, nm_r (e' := nI (112 * s + w)) (by rw [e, ht, ix_y]) ⟨v1, nm_r (e' := nI n) (by rw [ei, hl]) ⟨v1, nm_r (e' := nI i) (by rw [ei, ha]) ⟨vn, br_t ?_ ⟨vn, nm_r (e' := nI o) (by rw [e2, ho]) ?_⟩⟩⟩⟩⟩⟩
  · rw [e, ht]; exact nI_ne0 (by omega) (by omega)
  · rw [e2, hp, nI_1, hz]
  · subst hd
    exact (br_f (by decide) (br_f (by decide) (br_f (by decide) (br_f (by decide) (br_t rfl (br_f (nI_ne0 h0 (by omega)) (br_f (by decide) (y_beat0 (br_t rfl K)))))))))
theorem y_8e0  {s w n i p o : Nat} {v : Int64} (h7 : s < 7) (ht : yt s = nI (w + 1)) (hw : w < 112) (hl : yl (112 * s + w) = nI n) (hn : n < 96) (ha : ya (112 * s + w) = nI i) (hp : yp n = nI p) (hi : i < 100) (hp9 : p < 100) (ho : op n = nI o) (hz : i + 1 ≠ p) (hd : o = 8) (h0 : i = 0) (K : wpY_raise post (yd, yg, yN, yi, yo, (nI 120), yF, yC, (nI s), yft, ybt, res, yer, ypl, ypr, rn, hs, gv, gt, op, a, b, pa, fi, nx, yp, wn, wu, gn, ge, wv, yl, ya, ye, yk, yt, yc, yst, yf, yr, ou) 7 (nI n)) : wpY_deliver post (yd, yg, yN, yi, yo, (nI 120), yF, yC, (nI s), yft, ybt, res, yer, ypl, ypr, rn, hs, gv, gt, op, a, b, pa, fi, nx, yp, wn, wu, gn, ge, wv, yl, ya, ye, yk, yt, yc, yst, yf, yr, ou) v := by
  have e := nc_ (n := s) (by omega)
  have ei := nc_ (n := 112 * s + w) (by omega)
  have e2 := nc_ (n := n) (by omega)
  have v7 := vi_ (n := s) (N := 7) h7 (by omega)
  have vn := vi_ (n := n) (N := 96) hn (by omega)
  have v1 := vi_ (n := 112 * s + w) (N := 784) (by omega) (by omega)
  refine ⟨v7, br_f ?_ ⟨v7, nm_r (e' := nI (112 * s + w)) (by rw [e, ht, ix_y]) ⟨v1, nm_r (e' := nI n) (by rw [ei, hl]) ⟨v1, nm_r (e' := nI i) (by rw [ei, ha]) ⟨vn, br_f ?_ ⟨vn, nm_r (e' := nI o) (by rw [e2, ho]) ?_⟩⟩⟩⟩⟩⟩
  · rw [e, ht]; exact nI_ne0 (by omega) (by omega)
  · rw [e2, hp, nI_1]; intro h; have := (nI_eq (by omega) (by omega)).mp h; omega
  · subst hd
    exact (br_f (by decide) (br_f (by decide) (br_f (by decide) (br_f (by decide) (br_f (by decide) (br_t rfl (br_t (by subst h0; rfl) (br_t rfl K))))))))
theorem y_8e1  {s w n i p o : Nat} {v : Int64} (h7 : s < 7) (ht : yt s = nI (w + 1)) (hw : w < 112) (hl : yl (112 * s + w) = nI n) (hn : n < 96) (ha : ya (112 * s + w) = nI i) (hp : yp n = nI p) (hi : i < 100) (hp9 : p < 100) (ho : op n = nI o) (hz : i + 1 = p) (hd : o = 8) (h0 : i = 0) (K : wpY_raise post (yd, yg, yN, yi, yo, (nI 120), yF, yC, (nI s), yft, ybt, res, yer, ypl, ypr, rn, hs, gv, gt, op, a, b, pa, fi, nx, yp, wn, wu, gn, ge, wv, yl, ya, ye, yk, yt, yc, yst, yf, yr, ou) 7 (nI n)) : wpY_deliver post (yd, yg, yN, yi, yo, (nI 120), yF, yC, (nI s), yft, ybt, res, yer, ypl, ypr, rn, hs, gv, gt, op, a, b, pa, fi, nx, yp, wn, wu, gn, ge, wv, yl, ya, ye, yk, yt, yc, yst, yf, yr, ou) v := by
  have e := nc_ (n := s) (by omega)
  have ei := nc_ (n := 112 * s + w) (by omega)
  have e2 := nc_ (n := n) (by omega)
  have v7 := vi_ (n := s) (N := 7) h7 (by omega)
  have vn := vi_ (n := n) (N := 96) hn (by omega)
  have v1 := vi_ (n := 112 * s + w) (N := 784) (by omega) (by omega)
  refine ⟨v7, br_f ?_ ⟨v7, nm_r (e' := nI (112 * s + w)) (by rw [e, ht, ix_y]) ⟨v1, nm_r (e' := nI n) (by rw [ei, hl]) ⟨v1, nm_r (e' := nI i) (by rw [ei, ha]) ⟨vn, br_t ?_ ⟨vn, nm_r (e' := nI o) (by rw [e2, ho]) ?_⟩⟩⟩⟩⟩⟩
  · rw [e, ht]; exact nI_ne0 (by omega) (by omega)
  · rw [e2, hp, nI_1, hz]
  · subst hd
    exact (br_f (by decide) (br_f (by decide) (br_f (by decide) (br_f (by decide) (br_f (by decide) (br_t rfl (br_t (by subst h0; rfl) (br_t rfl K))))))))
theorem y_8a {V : Nat} (hV : V < 120) {s w n i p o : Nat} {v : Int64} (h7 : s < 7) (ht : yt s = nI (w + 1)) (hw : w < 112) (hl : yl (112 * s + w) = nI n) (hn : n < 96) (ha : ya (112 * s + w) = nI i) (hp : yp n = nI p) (hi : i < 100) (hp9 : p < 100) (ho : op n = nI o) (hz : i + 1 ≠ p) (hd : o = 8) (h0 : i = 0) (K : post (yd, yg, yN, yi, yo, (nI (V + 1)), yF, yC, (nI s), yft, ybt, res, yer, ypl, ypr, rn, hs, gv, gt, op, a, b, pa, fi, nx, yp, (upd wn V (a n)), (upd wu V (ye (112 * s + w))), gn, ge, (vp_updL wv V v), yl, (upd ya (112 * s + w) (nI (i + 1))), (upd ye (112 * s + w) (nI V)), yk, yt, yc, yst, yf, yr, ou)) : wpY_deliver post (yd, yg, yN, yi, yo, (nI V), yF, yC, (nI s), yft, ybt, res, yer, ypl, ypr, rn, hs, gv, gt, op, a, b, pa, fi, nx, yp, wn, wu, gn, ge, wv, yl, ya, ye, yk, yt, yc, yst, yf, yr, ou) v := by
  have e := nc_ (n := s) (by omega)
  have ei := nc_ (n := 112 * s + w) (by omega)
  have e2 := nc_ (n := n) (by omega)
  have v7 := vi_ (n := s) (N := 7) h7 (by omega)
  have vn := vi_ (n := n) (N := 96) hn (by omega)
  have v1 := vi_ (n := 112 * s + w) (N := 784) (by omega) (by omega)
  refine ⟨v7, br_f ?_ ⟨v7, nm_r (e' := nI (112 * s + w)) (by rw [e, ht, ix_y]) ⟨v1, nm_r (e' := nI n) (by rw [ei, hl]) ⟨v1, nm_r (e' := nI i) (by rw [ei, ha]) ⟨vn, br_f ?_ ⟨vn, nm_r (e' := nI o) (by rw [e2, ho]) ?_⟩⟩⟩⟩⟩⟩
  · rw [e, ht]; exact nI_ne0 (by omega) (by omega)
  · rw [e2, hp, nI_1]; intro h; have := (nI_eq (by omega) (by omega)).mp h; omega
  · subst hd
    have hV3 : ¬ nI V = 120 := fun h => by
      have := (nI_eq (a := V) (b := 120) (by omega) (by omega)).mp h
      omega
    refine br_f (by decide) (br_f (by decide) (br_f (by decide) (br_f (by decide) (br_f (by decide) (br_t rfl (br_t (by subst h0; rfl) (br_f hV3 (br_t (by subst h0; rfl) ⟨vn, v1, ?_⟩))))))))
    refine y_var hV ?_
    dsimp only
    refine ⟨v1, nm_r (e' := upd ye (112 * s + w) (nI V)) (by rw [ei]) ?_⟩
    rw [ei, e2]
    exact ⟨v1, v1, nm_r (e' := upd ya (112 * s + w) (nI (i + 1))) (by rw [ei, ha, nI_1]) (br_t rfl K)⟩
theorem y_8b {V : Nat} (hV : V < 120) {s w n i p o : Nat} {v : Int64} (h7 : s < 7) (ht : yt s = nI (w + 1)) (hw : w < 112) (hl : yl (112 * s + w) = nI n) (hn : n < 96) (ha : ya (112 * s + w) = nI i) (hp : yp n = nI p) (hi : i < 100) (hp9 : p < 100) (ho : op n = nI o) (hz : i + 1 = p) (hd : o = 8) (h0 : i = 0) (K : wpY_finish post (yd, yg, yN, yi, yo, (nI (V + 1)), yF, yC, (nI s), yft, ybt, res, yer, ypl, ypr, rn, hs, gv, gt, op, a, b, pa, fi, nx, yp, (upd wn V (a n)), (upd wu V (ye (112 * s + w))), gn, ge, (vp_updL wv V v), yl, (upd ya (112 * s + w) (nI (i + 1))), (upd ye (112 * s + w) (nI V)), yk, yt, yc, yst, yf, yr, ou) 4294967296) : wpY_deliver post (yd, yg, yN, yi, yo, (nI V), yF, yC, (nI s), yft, ybt, res, yer, ypl, ypr, rn, hs, gv, gt, op, a, b, pa, fi, nx, yp, wn, wu, gn, ge, wv, yl, ya, ye, yk, yt, yc, yst, yf, yr, ou) v := by
  have e := nc_ (n := s) (by omega)
  have ei := nc_ (n := 112 * s + w) (by omega)
  have e2 := nc_ (n := n) (by omega)
  have v7 := vi_ (n := s) (N := 7) h7 (by omega)
  have vn := vi_ (n := n) (N := 96) hn (by omega)
  have v1 := vi_ (n := 112 * s + w) (N := 784) (by omega) (by omega)
  refine ⟨v7, br_f ?_ ⟨v7, nm_r (e' := nI (112 * s + w)) (by rw [e, ht, ix_y]) ⟨v1, nm_r (e' := nI n) (by rw [ei, hl]) ⟨v1, nm_r (e' := nI i) (by rw [ei, ha]) ⟨vn, br_t ?_ ⟨vn, nm_r (e' := nI o) (by rw [e2, ho]) ?_⟩⟩⟩⟩⟩⟩
  · rw [e, ht]; exact nI_ne0 (by omega) (by omega)
  · rw [e2, hp, nI_1, hz]
  · subst hd
    have hV3 : ¬ nI V = 120 := fun h => by
      have := (nI_eq (a := V) (b := 120) (by omega) (by omega)).mp h
      omega
    refine br_f (by decide) (br_f (by decide) (br_f (by decide) (br_f (by decide) (br_f (by decide) (br_t rfl (br_t (by subst h0; rfl) (br_f hV3 (br_t (by subst h0; rfl) ⟨vn, v1, ?_⟩))))))))
    refine y_var hV ?_
    dsimp only
    refine ⟨v1, nm_r (e' := upd ye (112 * s + w) (nI V)) (by rw [ei]) ?_⟩
    rw [ei, e2]
    exact ⟨v1, v1, nm_r (e' := upd ya (112 * s + w) (nI (i + 1))) (by rw [ei, ha, nI_1]) (br_f (by decide) (br_t (by subst h0; rfl) K))⟩
theorem y_8c {s w n i p o : Nat} {v : Int64} (h7 : s < 7) (ht : yt s = nI (w + 1)) (hw : w < 112) (hl : yl (112 * s + w) = nI n) (hn : n < 96) (ha : ya (112 * s + w) = nI i) (hp : yp n = nI p) (hi : i < 100) (hp9 : p < 100) (ho : op n = nI o) (hz : i + 1 ≠ p) (hd : o = 8) (h0 : 0 < i) (K : post (yd, yg, yN, yi, yo, yV, yF, yC, (nI s), yft, ybt, res, yer, ypl, ypr, rn, hs, gv, gt, op, a, b, pa, fi, nx, yp, wn, wu, gn, ge, wv, yl, (upd ya (112 * s + w) (nI (i + 1))), ye, yk, yt, yc, yst, yf, yr, ou)) : wpY_deliver post (yd, yg, yN, yi, yo, yV, yF, yC, (nI s), yft, ybt, res, yer, ypl, ypr, rn, hs, gv, gt, op, a, b, pa, fi, nx, yp, wn, wu, gn, ge, wv, yl, ya, ye, yk, yt, yc, yst, yf, yr, ou) v := by
  have e := nc_ (n := s) (by omega)
  have ei := nc_ (n := 112 * s + w) (by omega)
  have e2 := nc_ (n := n) (by omega)
  have v7 := vi_ (n := s) (N := 7) h7 (by omega)
  have vn := vi_ (n := n) (N := 96) hn (by omega)
  have v1 := vi_ (n := 112 * s + w) (N := 784) (by omega) (by omega)
  refine ⟨v7, br_f ?_ ⟨v7, nm_r (e' := nI (112 * s + w)) (by rw [e, ht, ix_y]) ⟨v1, nm_r (e' := nI n) (by rw [ei, hl]) ⟨v1, nm_r (e' := nI i) (by rw [ei, ha]) ⟨vn, br_f ?_ ⟨vn, nm_r (e' := nI o) (by rw [e2, ho]) ?_⟩⟩⟩⟩⟩⟩
  · rw [e, ht]; exact nI_ne0 (by omega) (by omega)
  · rw [e2, hp, nI_1]; intro h; have := (nI_eq (by omega) (by omega)).mp h; omega
  · subst hd
    exact (br_f (by decide) (br_f (by decide) (br_f (by decide) (br_f (by decide) (br_f (by decide) (br_t rfl (br_f (nI_ne0 h0 (by omega)) (br_f (nI_ne0 h0 (by omega)) ⟨v1, v1, nm_r (e' := upd ya (112 * s + w) (nI (i + 1))) (by rw [ei, ha, nI_1]) (br_t rfl K)⟩))))))))
theorem y_8d {s w n i p o : Nat} {v : Int64} (h7 : s < 7) (ht : yt s = nI (w + 1)) (hw : w < 112) (hl : yl (112 * s + w) = nI n) (hn : n < 96) (ha : ya (112 * s + w) = nI i) (hp : yp n = nI p) (hi : i < 100) (hp9 : p < 100) (ho : op n = nI o) (hz : i + 1 = p) (hd : o = 8) (h0 : 0 < i) (K : wpY_finish post (yd, yg, yN, yi, yo, yV, yF, yC, (nI s), yft, ybt, res, yer, ypl, ypr, rn, hs, gv, gt, op, a, b, pa, fi, nx, yp, wn, wu, gn, ge, wv, yl, (upd ya (112 * s + w) (nI (i + 1))), ye, yk, yt, yc, yst, yf, yr, ou) v) : wpY_deliver post (yd, yg, yN, yi, yo, yV, yF, yC, (nI s), yft, ybt, res, yer, ypl, ypr, rn, hs, gv, gt, op, a, b, pa, fi, nx, yp, wn, wu, gn, ge, wv, yl, ya, ye, yk, yt, yc, yst, yf, yr, ou) v := by
  have e := nc_ (n := s) (by omega)
  have ei := nc_ (n := 112 * s + w) (by omega)
  have e2 := nc_ (n := n) (by omega)
  have v7 := vi_ (n := s) (N := 7) h7 (by omega)
  have vn := vi_ (n := n) (N := 96) hn (by omega)
  have v1 := vi_ (n := 112 * s + w) (N := 784) (by omega) (by omega)
  refine ⟨v7, br_f ?_ ⟨v7, nm_r (e' := nI (112 * s + w)) (by rw [e, ht, ix_y]) ⟨v1, nm_r (e' := nI n) (by rw [ei, hl]) ⟨v1, nm_r (e' := nI i) (by rw [ei, ha]) ⟨vn, br_t ?_ ⟨vn, nm_r (e' := nI o) (by rw [e2, ho]) ?_⟩⟩⟩⟩⟩⟩
  · rw [e, ht]; exact nI_ne0 (by omega) (by omega)
  · rw [e2, hp, nI_1, hz]
  · subst hd
    exact (br_f (by decide) (br_f (by decide) (br_f (by decide) (br_f (by decide) (br_f (by decide) (br_t rfl (br_f (nI_ne0 h0 (by omega)) (br_f (nI_ne0 h0 (by omega)) ⟨v1, v1, nm_r (e' := upd ya (112 * s + w) (nI (i + 1))) (by rw [ei, ha, nI_1]) (br_f (by decide) (br_f (nI_ne0 h0 (by omega)) K))⟩))))))))
theorem y_del0 {s : Nat} {v : Int64} (h7 : s < 7) (ht : yt s = nI 0) (K : post (yd, yg, yN, yi, yo, yV, yF, yC, (nI s), yft, ybt, 0, yer, ypl, ypr, 0, hs, v, gt, op, a, b, pa, fi, nx, yp, wn, wu, gn, ge, wv, yl, ya, ye, yk, yt, yc, yst, yf, yr, ou)) : wpY_deliver post (yd, yg, yN, yi, yo, yV, yF, yC, (nI s), yft, ybt, res, yer, ypl, ypr, rn, hs, gv, gt, op, a, b, pa, fi, nx, yp, wn, wu, gn, ge, wv, yl, ya, ye, yk, yt, yc, yst, yf, yr, ou) v := by
  have e := nc_ (n := s) (by omega)
  exact ⟨vi_ h7 (by omega), br_t (by rw [e, ht]; rfl) K⟩
end
section
/-- both sides agree on what is false -/
theorem xy_false {F C : Nat} {x y : Int64} (hF : F ≤ 40) (hC : C ≤ 6) (h : cv_R F C x y) : (∃ z : Int32, (z = 0 ∨ z = 1) ∧ (∀ q : Int32 → Prop, q z → wpX_isFalse q x) ∧ (∀ (q : Int32 → Prop) (u : SY), q z → wpY_isFalse q u y)) := by
  rcases cv_cases hF h with ⟨n, hn, rfl, rfl⟩ | ⟨rfl, rfl⟩ | ⟨f, hf, rfl, rfl⟩ | ⟨c, hc, rfl, rfl⟩
  · by_cases h0 : n = 0
    · subst h0
      exact ⟨1, Or.inr rfl, fun q hq => br_f (by decide) (br_t rfl hq), fun q u hq => br_t rfl hq⟩
    · refine ⟨0, Or.inl rfl, fun q hq => br_f ?_ (br_f ?_ hq), fun q u hq => br_f ?_ (br_f ?_ hq)⟩
      · exact fun h => absurd ((vo_eq (y := 0) (by omega) (by omega)).mp h) (by omega)
      · exact fun h => absurd ((vo_eq (y := 4294967296) (by omega) (by omega)).mp h) (by omega)
      · exact fun h => absurd ((vo_eq (y := 0) (by omega) (by omega)).mp h) (by omega)
      · exact fun h => absurd ((vo_eq (y := 4294967296) (by omega) (by omega)).mp h) (by omega)
  · exact ⟨1, Or.inr rfl, fun q hq => br_t rfl hq, fun q u hq => br_f (by decide) (br_t rfl hq)⟩
  · refine ⟨0, Or.inl rfl, fun q hq => br_f ?_ (br_f ?_ hq), fun q u hq => br_f ?_ (br_f ?_ hq)⟩
    · exact fun h => absurd ((vo_eq (y := 0) (by omega) (by omega)).mp h) (by omega)
    · exact fun h => absurd ((vo_eq (y := 4294967296) (by omega) (by omega)).mp h) (by omega)
    · exact fun h => absurd ((vo_eq (y := 0) (by omega) (by omega)).mp h) (by omega)
    · exact fun h => absurd ((vo_eq (y := 4294967296) (by omega) (by omega)).mp h) (by omega)
  · refine ⟨0, Or.inl rfl, fun q hq => br_f ?_ (br_f ?_ hq), fun q u hq => br_f ?_ (br_f ?_ hq)⟩
    · exact fun h => absurd ((vo_eq (y := 0) (by omega) (by omega)).mp h) (by omega)
    · exact fun h => absurd ((vo_eq (y := 4294967296) (by omega) (by omega)).mp h) (by omega)
    · exact fun h => absurd ((vo_eq (y := 0) (by omega) (by omega)).mp h) (by omega)
    · exact fun h => absurd ((vo_eq (y := 4294967296) (by omega) (by omega)).mp h) (by omega)
end
