section
/-- numbers on both sides -/
theorem xy_num {F C : Nat} {x y : Int64} (hF : F ≤ 40) (hC : C ≤ 6) (h : cv_R F C x y) : (∃ n, n < 4294967296 ∧ x = lN (n + 4294967296) ∧ y = lN n ∧ (∀ q : Int32 → Prop, q 1 → wpX_isNumber q x) ∧ (∀ (q : Int32 → Prop) (u : SY), q 1 → wpY_number q u y)) ∨ ((∀ q : Int32 → Prop, q 0 → wpX_isNumber q x) ∧ (∀ (q : Int32 → Prop) (u : SY), q 0 → wpY_number q u y)) := by
  rcases cv_cases hF h with ⟨n, hn, rfl, rfl⟩ | ⟨rfl, rfl⟩ | ⟨f, hf, rfl, rfl⟩ | ⟨c, hc, rfl, rfl⟩
  · refine Or.inl ⟨n, hn, rfl, rfl, fun q hq => ?_, fun q u hq => ?_⟩
    · unfold wpX_isNumber
      refine x_kind (by omega) ?_
      rw [show (n + 4294967296) / 4294967296 = 1 by omega]
      exact br_t rfl hq
    · exact br_f (fun h => absurd ((vo_le (c := 4294967296) (by omega) (by omega)).mp h) (by omega)) hq
  · refine Or.inr ⟨fun q hq => ?_, fun q u hq => br_t ((vo_le (c := 4294967296) (by omega) (by omega)).mpr (Nat.le_refl _)) hq⟩
    unfold wpX_isNumber
    refine x_kind (by omega) ?_
    exact br_f (by decide) hq
  · refine Or.inr ⟨fun q hq => ?_, fun q u hq => br_t ((vo_le (c := 4294967296) (by omega) (by omega)).mpr (by omega)) hq⟩
    unfold wpX_isNumber
    refine x_kind (by omega) ?_
    rw [show (8589934592 + f) / 4294967296 = 2 by omega]
    exact br_f (by decide) hq
  · refine Or.inr ⟨fun q hq => ?_, fun q u hq => br_t ((vo_le (c := 4294967296) (by omega) (by omega)).mpr (by omega)) hq⟩
    unfold wpX_isNumber
    refine x_kind (by omega) ?_
    rw [show (12884901888 + c + 1) / 4294967296 = 3 by omega]
    exact br_f (by decide) hq
/-- functions on both sides -/
theorem xy_fun {F C : Nat} {x y : Int64} (hF : F ≤ 40) (hC : C ≤ 6) (h : cv_R F C x y) : (∃ f, f < F ∧ x = lN (8589934592 + f) ∧ y = lN (8589934592 + f) ∧ (∀ q : Int32 → Prop, q 2 → wpX_kindOf q x) ∧ (∀ (q : Int32 → Prop) (u : SY), q 1 → wpY_function q u y)) ∨ ((∃ k : Int32, k ≠ 2 ∧ (∀ q : Int32 → Prop, q k → wpX_kindOf q x)) ∧ (∀ (q : Int32 → Prop) (u : SY), q 0 → wpY_function q u y)) := by
  rcases cv_cases hF h with ⟨n, hn, rfl, rfl⟩ | ⟨rfl, rfl⟩ | ⟨f, hf, rfl, rfl⟩ | ⟨c, hc, rfl, rfl⟩
  · refine Or.inr ⟨⟨1, by decide, fun q hq => x_kind (by omega) ?_⟩, fun q u hq => br_t ((vo_lt (c := 8589934592) (by omega) (by omega)).mpr (by omega)) hq⟩
    rw [show (n + 4294967296) / 4294967296 = 1 by omega]
    exact hq
  · exact Or.inr ⟨⟨0, by decide, fun q hq => x_kind (by omega) hq⟩, fun q u hq => br_t ((vo_lt (c := 8589934592) (by omega) (by omega)).mpr (by omega)) hq⟩
  · refine Or.inl ⟨f, hf, rfl, rfl, fun q hq => x_kind (by omega) ?_, fun q u hq => br_f (fun h => absurd ((vo_lt (c := 8589934592) (by omega) (by omega)).mp h) (by omega)) (br_f (fun h => absurd ((vo_le (c := 12884901888) (by omega) (by omega)).mp h) (by omega)) hq)⟩
    rw [show (8589934592 + f) / 4294967296 = 2 by omega]
    exact hq
  · refine Or.inr ⟨⟨3, by decide, fun q hq => x_kind (by omega) ?_⟩, fun q u hq => br_f (fun h => absurd ((vo_lt (c := 8589934592) (by omega) (by omega)).mp h) (by omega)) (br_t ((vo_le (c := 12884901888) (by omega) (by omega)).mpr (by omega)) hq)⟩
    rw [show (12884901888 + c + 1) / 4294967296 = 3 by omega]
    exact hq
/-- coroutines on both sides -/
theorem xy_co {F C : Nat} {x y : Int64} (hF : F ≤ 40) (hC : C ≤ 6) (h : cv_R F C x y) : (∃ c, c < C ∧ x = lN (12884901888 + c + 1) ∧ y = lN (12884901888 + c) ∧ (∀ q : Int32 → Prop, q 3 → wpX_kindOf q x) ∧ 12884901888 ≤ y) ∨ ((∃ k : Int32, k ≠ 3 ∧ (∀ q : Int32 → Prop, q k → wpX_kindOf q x)) ∧ ¬ 12884901888 ≤ y) := by
  rcases cv_cases hF h with ⟨n, hn, rfl, rfl⟩ | ⟨rfl, rfl⟩ | ⟨f, hf, rfl, rfl⟩ | ⟨c, hc, rfl, rfl⟩
  · refine Or.inr ⟨⟨1, by decide, fun q hq => x_kind (by omega) ?_⟩, fun h => absurd ((vo_le (c := 12884901888) (by omega) (by omega)).mp h) (by omega)⟩
    rw [show (n + 4294967296) / 4294967296 = 1 by omega]
    exact hq
  · exact Or.inr ⟨⟨0, by decide, fun q hq => x_kind (by omega) hq⟩, fun h => absurd ((vo_le (c := 12884901888) (by omega) (by omega)).mp h) (by omega)⟩
  · refine Or.inr ⟨⟨2, by decide, fun q hq => x_kind (by omega) ?_⟩, fun h => absurd ((vo_le (c := 12884901888) (by omega) (by omega)).mp h) (by omega)⟩
    rw [show (8589934592 + f) / 4294967296 = 2 by omega]
    exact hq
  · refine Or.inl ⟨c, hc, rfl, rfl, fun q hq => x_kind (by omega) ?_, (vo_le (c := 12884901888) (by omega) (by omega)).mpr (by omega)⟩
    rw [show (12884901888 + c + 1) / 4294967296 = 3 by omega]
    exact hq
/-- the four arithmetic kinds -/
def ar_ (o : Nat) (x y : Int32) : Int32 := if o = 0 then x + y else if o = 1 then x - y else if o = 2 then x * y else if y ≤ x then 0 else 1
end
section
variable {yd yg yN yi yo yV yF yC ys yft ybt res yer ypl ypr rn hs : Int32} {gv gt : Int64} {op a b pa fi nx yp wn wu gn ge : Nat → Int32} {wv : Nat → Int64} {yl ya ye : Nat → Int32} {yk : Nat → Int64} {yt yc yst yf yr : Nat → Int32} {ou : Nat → Int64}
variable {post : SY → Prop}
theorem y_a0 {s w n : Nat} {v : Int64} (h7 : s < 7) (hw : w < 112) (hn : n < 96) (ho : op n = 0) (K : wpY_arithmetic post (yd, yg, yN, yi, yo, yV, yF, yC, (nI s), yft, ybt, res, yer, ypl, ypr, rn, hs, gv, gt, op, a, b, pa, fi, nx, yp, wn, wu, gn, ge, wv, yl, ya, ye, yk, yt, yc, yst, yf, yr, ou) (nI n) 0 (yk (3 * (112 * s + w))) v) : wpY_apply post (yd, yg, yN, yi, yo, yV, yF, yC, (nI s), yft, ybt, res, yer, ypl, ypr, rn, hs, gv, gt, op, a, b, pa, fi, nx, yp, wn, wu, gn, ge, wv, yl, ya, ye, yk, yt, yc, yst, yf, yr, ou) (nI (112 * s + w)) (nI n) v := by
  have e2 := nc_ (n := n) (by omega)
  have e3 := nc_ (n := 3 * (112 * s + w)) (by omega)
  have vn := vi_ (n := n) (N := 96) hn (by omega)
  have v3 : vp_in (3 * nI (112 * s + w)) 2352 := by rw [ix_3]; exact vi_ (by omega) (by omega)
  refine ⟨vn, nm_r (e' := op n) (by rw [e2]) ⟨v3, nm_r (e' := yk (3 * (112 * s + w))) (by rw [ix_3, e3]) ?_⟩⟩
  rw [ho]
  exact br_f (by decide) K
theorem y_a1 {s w n : Nat} {v : Int64} (h7 : s < 7) (hw : w < 112) (hn : n < 96) (ho : op n = 1) (K : wpY_arithmetic post (yd, yg, yN, yi, yo, yV, yF, yC, (nI s), yft, ybt, res, yer, ypl, ypr, rn, hs, gv, gt, op, a, b, pa, fi, nx, yp, wn, wu, gn, ge, wv, yl, ya, ye, yk, yt, yc, yst, yf, yr, ou) (nI n) 1 (yk (3 * (112 * s + w))) v) : wpY_apply post (yd, yg, yN, yi, yo, yV, yF, yC, (nI s), yft, ybt, res, yer, ypl, ypr, rn, hs, gv, gt, op, a, b, pa, fi, nx, yp, wn, wu, gn, ge, wv, yl, ya, ye, yk, yt, yc, yst, yf, yr, ou) (nI (112 * s + w)) (nI n) v := by
  have e2 := nc_ (n := n) (by omega)
  have e3 := nc_ (n := 3 * (112 * s + w)) (by omega)
  have vn := vi_ (n := n) (N := 96) hn (by omega)
  have v3 : vp_in (3 * nI (112 * s + w)) 2352 := by rw [ix_3]; exact vi_ (by omega) (by omega)
  refine ⟨vn, nm_r (e' := op n) (by rw [e2]) ⟨v3, nm_r (e' := yk (3 * (112 * s + w))) (by rw [ix_3, e3]) ?_⟩⟩
  rw [ho]
  exact br_f (by decide) K
theorem y_a2 {s w n : Nat} {v : Int64} (h7 : s < 7) (hw : w < 112) (hn : n < 96) (ho : op n = 2) (K : wpY_arithmetic post (yd, yg, yN, yi, yo, yV, yF, yC, (nI s), yft, ybt, res, yer, ypl, ypr, rn, hs, gv, gt, op, a, b, pa, fi, nx, yp, wn, wu, gn, ge, wv, yl, ya, ye, yk, yt, yc, yst, yf, yr, ou) (nI n) 2 (yk (3 * (112 * s + w))) v) : wpY_apply post (yd, yg, yN, yi, yo, yV, yF, yC, (nI s), yft, ybt, res, yer, ypl, ypr, rn, hs, gv, gt, op, a, b, pa, fi, nx, yp, wn, wu, gn, ge, wv, yl, ya, ye, yk, yt, yc, yst, yf, yr, ou) (nI (112 * s + w)) (nI n) v := by
  have e2 := nc_ (n := n) (by omega)
  have e3 := nc_ (n := 3 * (112 * s + w)) (by omega)
  have vn := vi_ (n := n) (N := 96) hn (by omega)
  have v3 : vp_in (3 * nI (112 * s + w)) 2352 := by rw [ix_3]; exact vi_ (by omega) (by omega)
  refine ⟨vn, nm_r (e' := op n) (by rw [e2]) ⟨v3, nm_r (e' := yk (3 * (112 * s + w))) (by rw [ix_3, e3]) ?_⟩⟩
  rw [ho]
  exact br_f (by decide) K
theorem y_a3 {s w n : Nat} {v : Int64} (h7 : s < 7) (hw : w < 112) (hn : n < 96) (ho : op n = 3) (K : wpY_arithmetic post (yd, yg, yN, yi, yo, yV, yF, yC, (nI s), yft, ybt, res, yer, ypl, ypr, rn, hs, gv, gt, op, a, b, pa, fi, nx, yp, wn, wu, gn, ge, wv, yl, ya, ye, yk, yt, yc, yst, yf, yr, ou) (nI n) 3 (yk (3 * (112 * s + w))) v) : wpY_apply post (yd, yg, yN, yi, yo, yV, yF, yC, (nI s), yft, ybt, res, yer, ypl, ypr, rn, hs, gv, gt, op, a, b, pa, fi, nx, yp, wn, wu, gn, ge, wv, yl, ya, ye, yk, yt, yc, yst, yf, yr, ou) (nI (112 * s + w)) (nI n) v := by
  have e2 := nc_ (n := n) (by omega)
  have e3 := nc_ (n := 3 * (112 * s + w)) (by omega)
  have vn := vi_ (n := n) (N := 96) hn (by omega)
  have v3 : vp_in (3 * nI (112 * s + w)) 2352 := by rw [ix_3]; exact vi_ (by omega) (by omega)
  refine ⟨vn, nm_r (e' := op n) (by rw [e2]) ⟨v3, nm_r (e' := yk (3 * (112 * s + w))) (by rw [ix_3, e3]) ?_⟩⟩
  rw [ho]
  exact br_f (by decide) K
theorem y_a4 {s w n : Nat} {v : Int64} (h7 : s < 7) (hw : w < 112) (hn : n < 96) (ho : op n = 4) (K : wpY_finish post (yd, yg, yN, yi, yo, yV, yF, yC, (nI s), yft, ybt, res, yer, ypl, ypr, rn, hs, gv, gt, op, a, b, pa, fi, nx, yp, wn, wu, gn, ge, wv, yl, ya, ye, yk, yt, yc, yst, yf, yr, ou) (if yk (3 * (112 * s + w)) = v then 1 else 0)) : wpY_apply post (yd, yg, yN, yi, yo, yV, yF, yC, (nI s), yft, ybt, res, yer, ypl, ypr, rn, hs, gv, gt, op, a, b, pa, fi, nx, yp, wn, wu, gn, ge, wv, yl, ya, ye, yk, yt, yc, yst, yf, yr, ou) (nI (112 * s + w)) (nI n) v := by
  have e2 := nc_ (n := n) (by omega)
  have e3 := nc_ (n := 3 * (112 * s + w)) (by omega)
  have vn := vi_ (n := n) (N := 96) hn (by omega)
  have v3 : vp_in (3 * nI (112 * s + w)) 2352 := by rw [ix_3]; exact vi_ (by omega) (by omega)
  refine ⟨vn, nm_r (e' := op n) (by rw [e2]) ⟨v3, nm_r (e' := yk (3 * (112 * s + w))) (by rw [ix_3, e3]) ?_⟩⟩
  rw [ho]
  exact br_t (by decide) (br_t rfl (br_c (fun h1 => by rw [if_pos h1] at K; exact K) (fun h1 => by rw [if_neg h1] at K; exact K)))
theorem y_a9 {s w n : Nat} {v : Int64} (h7 : s < 7) (hw : w < 112) (hn : n < 96) (ho : op n = 9) {p : Nat} (hp : p < 120) (hf : ∀ q : Int32 → Prop, q (nI p) → wpY_find q (yd, yg, yN, yi, yo, yV, yF, yC, (nI s), yft, ybt, res, yer, ypl, ypr, rn, hs, gv, gt, op, a, b, pa, fi, nx, yp, wn, wu, gn, ge, wv, yl, ya, ye, yk, yt, yc, yst, yf, yr, ou) (a n) (ye (112 * s + w))) (ht : yt s = nI (w + 1)) (hl : yl (112 * s + w) = nI n) (K : post (yd, yg, yN, yi, yo, yV, yF, yC, (nI s), yft, ybt, res, yer, ypl, ypr, rn, 1, gv, v, op, a, b, pa, fi, nx, yp, wn, wu, gn, ge, (vp_updL wv p v), yl, ya, ye, yk, (upd yt s (nI w)), yc, yst, yf, yr, ou)) : wpY_apply post (yd, yg, yN, yi, yo, yV, yF, yC, (nI s), yft, ybt, res, yer, ypl, ypr, rn, hs, gv, gt, op, a, b, pa, fi, nx, yp, wn, wu, gn, ge, wv, yl, ya, ye, yk, yt, yc, yst, yf, yr, ou) (nI (112 * s + w)) (nI n) v := by
  have e2 := nc_ (n := n) (by omega)
  have e3 := nc_ (n := 3 * (112 * s + w)) (by omega)
  have vn := vi_ (n := n) (N := 96) hn (by omega)
  have v3 : vp_in (3 * nI (112 * s + w)) 2352 := by rw [ix_3]; exact vi_ (by omega) (by omega)
  refine ⟨vn, nm_r (e' := op n) (by rw [e2]) ⟨v3, nm_r (e' := yk (3 * (112 * s + w))) (by rw [ix_3, e3]) ?_⟩⟩
  rw [ho]
  exact br_t (by decide) (br_f (by decide) (br_t rfl ⟨vn, vi_ (by omega) (by omega), (by
      rw [e2, nc_ (n := 112 * s + w) (by omega)]
      refine hf _ ?_
      exact ⟨vi_ hp (by omega), nm_r (e' := vp_updL wv p v) (by rw [nc_ (by omega)]) (y_finish h7 ht hw hl hn (o := 9) ho (by omega) (by omega) K)⟩)⟩))
theorem y_a11 {s w n : Nat} {v : Int64} (h7 : s < 7) (hw : w < 112) (hn : n < 96) (ho : op n = 11) (K : wpY_call post (yd, yg, yN, yi, yo, yV, yF, yC, (nI s), yft, ybt, res, yer, ypl, ypr, rn, hs, gv, gt, op, a, b, pa, fi, nx, yp, wn, wu, gn, ge, wv, yl, ya, ye, yk, yt, yc, yst, yf, yr, ou) (nI (112 * s + w)) (nI n) v) : wpY_apply post (yd, yg, yN, yi, yo, yV, yF, yC, (nI s), yft, ybt, res, yer, ypl, ypr, rn, hs, gv, gt, op, a, b, pa, fi, nx, yp, wn, wu, gn, ge, wv, yl, ya, ye, yk, yt, yc, yst, yf, yr, ou) (nI (112 * s + w)) (nI n) v := by
  have e2 := nc_ (n := n) (by omega)
  have e3 := nc_ (n := 3 * (112 * s + w)) (by omega)
  have vn := vi_ (n := n) (N := 96) hn (by omega)
  have v3 : vp_in (3 * nI (112 * s + w)) 2352 := by rw [ix_3]; exact vi_ (by omega) (by omega)
  refine ⟨vn, nm_r (e' := op n) (by rw [e2]) ⟨v3, nm_r (e' := yk (3 * (112 * s + w))) (by rw [ix_3, e3]) ?_⟩⟩
  rw [ho]
  exact br_t (by decide) (br_f (by decide) (br_f (by decide) (br_t rfl K)))
theorem y_a12 {s w n : Nat} {v : Int64} (h7 : s < 7) (hw : w < 112) (hn : n < 96) (ho : op n = 12) (K : wpY_giveBack post (yd, yg, yN, yi, yo, yV, yF, yC, (nI s), yft, ybt, res, yer, ypl, ypr, rn, hs, gv, gt, op, a, b, pa, fi, nx, yp, wn, wu, gn, ge, wv, yl, ya, ye, yk, yt, yc, yst, yf, yr, ou) v) : wpY_apply post (yd, yg, yN, yi, yo, yV, yF, yC, (nI s), yft, ybt, res, yer, ypl, ypr, rn, hs, gv, gt, op, a, b, pa, fi, nx, yp, wn, wu, gn, ge, wv, yl, ya, ye, yk, yt, yc, yst, yf, yr, ou) (nI (112 * s + w)) (nI n) v := by
  have e2 := nc_ (n := n) (by omega)
  have e3 := nc_ (n := 3 * (112 * s + w)) (by omega)
  have vn := vi_ (n := n) (N := 96) hn (by omega)
  have v3 : vp_in (3 * nI (112 * s + w)) 2352 := by rw [ix_3]; exact vi_ (by omega) (by omega)
  refine ⟨vn, nm_r (e' := op n) (by rw [e2]) ⟨v3, nm_r (e' := yk (3 * (112 * s + w))) (by rw [ix_3, e3]) ?_⟩⟩
  rw [ho]
  exact br_t (by decide) (br_f (by decide) (br_f (by decide) (br_f (by decide) (br_t rfl K))))
theorem y_a13a {s w n : Nat} {v : Int64} (h7 : s < 7) (hw : w < 112) (hn : n < 96) (ho : op n = 13) (hf : ∀ q : Int32 → Prop, q 0 → wpY_number q (yd, yg, yN, yi, yo, yV, yF, yC, (nI s), yft, ybt, res, yer, ypl, ypr, rn, hs, gv, gt, op, a, b, pa, fi, nx, yp, wn, wu, gn, ge, wv, yl, ya, ye, yk, yt, yc, yst, yf, yr, ou) v) (K : wpY_raise post (yd, yg, yN, yi, yo, yV, yF, yC, (nI s), yft, ybt, res, yer, ypl, ypr, rn, hs, gv, gt, op, a, b, pa, fi, nx, yp, wn, wu, gn, ge, wv, yl, ya, ye, yk, yt, yc, yst, yf, yr, ou) 1 (nI n)) : wpY_apply post (yd, yg, yN, yi, yo, yV, yF, yC, (nI s), yft, ybt, res, yer, ypl, ypr, rn, hs, gv, gt, op, a, b, pa, fi, nx, yp, wn, wu, gn, ge, wv, yl, ya, ye, yk, yt, yc, yst, yf, yr, ou) (nI (112 * s + w)) (nI n) v := by
  have e2 := nc_ (n := n) (by omega)
  have e3 := nc_ (n := 3 * (112 * s + w)) (by omega)
  have vn := vi_ (n := n) (N := 96) hn (by omega)
  have v3 : vp_in (3 * nI (112 * s + w)) 2352 := by rw [ix_3]; exact vi_ (by omega) (by omega)
  refine ⟨vn, nm_r (e' := op n) (by rw [e2]) ⟨v3, nm_r (e' := yk (3 * (112 * s + w))) (by rw [ix_3, e3]) ?_⟩⟩
  rw [ho]
  exact br_t (by decide) (br_f (by decide) (br_f (by decide) (br_f (by decide) (br_f (by decide) (br_t rfl (hf _ (br_t rfl K)))))))
theorem y_a13b {s w n : Nat} {v : Int64} (h7 : s < 7) (hw : w < 112) (hn : n < 96) (ho : op n = 13) (hf : ∀ q : Int32 → Prop, q 1 → wpY_number q (yd, yg, yN, yi, yo, yV, yF, yC, (nI s), yft, ybt, res, yer, ypl, ypr, rn, hs, gv, gt, op, a, b, pa, fi, nx, yp, wn, wu, gn, ge, wv, yl, ya, ye, yk, yt, yc, yst, yf, yr, ou) v) (K : wpY_raise post (yd, yg, yN, yi, yo, yV, yF, yC, (nI s), yft, ybt, res, yer, ypl, ypr, rn, hs, gv, gt, op, a, b, pa, fi, nx, yp, wn, wu, gn, ge, wv, yl, ya, ye, yk, yt, yc, yst, yf, yr, ou) v.toInt32 (nI n)) : wpY_apply post (yd, yg, yN, yi, yo, yV, yF, yC, (nI s), yft, ybt, res, yer, ypl, ypr, rn, hs, gv, gt, op, a, b, pa, fi, nx, yp, wn, wu, gn, ge, wv, yl, ya, ye, yk, yt, yc, yst, yf, yr, ou) (nI (112 * s + w)) (nI n) v := by
  have e2 := nc_ (n := n) (by omega)
  have e3 := nc_ (n := 3 * (112 * s + w)) (by omega)
  have vn := vi_ (n := n) (N := 96) hn (by omega)
  have v3 : vp_in (3 * nI (112 * s + w)) 2352 := by rw [ix_3]; exact vi_ (by omega) (by omega)
  refine ⟨vn, nm_r (e' := op n) (by rw [e2]) ⟨v3, nm_r (e' := yk (3 * (112 * s + w))) (by rw [ix_3, e3]) ?_⟩⟩
  rw [ho]
  exact br_t (by decide) (br_f (by decide) (br_f (by decide) (br_f (by decide) (br_f (by decide) (br_t rfl (hf _ (br_f (by decide) K)))))))
theorem y_a15 {s w n : Nat} {v : Int64} (h7 : s < 7) (hw : w < 112) (hn : n < 96) (ho : op n = 15) (K : wpY_create post (yd, yg, yN, yi, yo, yV, yF, yC, (nI s), yft, ybt, res, yer, ypl, ypr, rn, hs, gv, gt, op, a, b, pa, fi, nx, yp, wn, wu, gn, ge, wv, yl, ya, ye, yk, yt, yc, yst, yf, yr, ou) (nI n) v) : wpY_apply post (yd, yg, yN, yi, yo, yV, yF, yC, (nI s), yft, ybt, res, yer, ypl, ypr, rn, hs, gv, gt, op, a, b, pa, fi, nx, yp, wn, wu, gn, ge, wv, yl, ya, ye, yk, yt, yc, yst, yf, yr, ou) (nI (112 * s + w)) (nI n) v := by
  have e2 := nc_ (n := n) (by omega)
  have e3 := nc_ (n := 3 * (112 * s + w)) (by omega)
  have vn := vi_ (n := n) (N := 96) hn (by omega)
  have v3 : vp_in (3 * nI (112 * s + w)) 2352 := by rw [ix_3]; exact vi_ (by omega) (by omega)
  refine ⟨vn, nm_r (e' := op n) (by rw [e2]) ⟨v3, nm_r (e' := yk (3 * (112 * s + w))) (by rw [ix_3, e3]) ?_⟩⟩
  rw [ho]
  exact br_t (by decide) (br_f (by decide) (br_f (by decide) (br_f (by decide) (br_f (by decide) (br_f (by decide) (br_f (by decide) (br_t rfl K)))))))
theorem y_a16 {s w n : Nat} {v : Int64} (h7 : s < 7) (hw : w < 112) (hn : n < 96) (ho : op n = 16) (K : wpY_resume post (yd, yg, yN, yi, yo, yV, yF, yC, (nI s), yft, ybt, res, yer, ypl, ypr, rn, hs, gv, gt, op, a, b, pa, fi, nx, yp, wn, wu, gn, ge, wv, yl, ya, ye, yk, yt, yc, yst, yf, yr, ou) (nI n) (yk (3 * (112 * s + w))) v) : wpY_apply post (yd, yg, yN, yi, yo, yV, yF, yC, (nI s), yft, ybt, res, yer, ypl, ypr, rn, hs, gv, gt, op, a, b, pa, fi, nx, yp, wn, wu, gn, ge, wv, yl, ya, ye, yk, yt, yc, yst, yf, yr, ou) (nI (112 * s + w)) (nI n) v := by
  have e2 := nc_ (n := n) (by omega)
  have e3 := nc_ (n := 3 * (112 * s + w)) (by omega)
  have vn := vi_ (n := n) (N := 96) hn (by omega)
  have v3 : vp_in (3 * nI (112 * s + w)) 2352 := by rw [ix_3]; exact vi_ (by omega) (by omega)
  refine ⟨vn, nm_r (e' := op n) (by rw [e2]) ⟨v3, nm_r (e' := yk (3 * (112 * s + w))) (by rw [ix_3, e3]) ?_⟩⟩
  rw [ho]
  exact br_t (by decide) (br_f (by decide) (br_f (by decide) (br_f (by decide) (br_f (by decide) (br_f (by decide) (br_f (by decide) (br_f (by decide) (br_t rfl K))))))))
theorem y_a17a {s w n : Nat} {v : Int64} (h7 : s < 7) (hw : w < 112) (hn : n < 96) (ho : op n = 17) (h0 : s = 0) (K : wpY_raise post (yd, yg, yN, yi, yo, yV, yF, yC, (nI s), yft, ybt, res, yer, ypl, ypr, rn, hs, gv, gt, op, a, b, pa, fi, nx, yp, wn, wu, gn, ge, wv, yl, ya, ye, yk, yt, yc, yst, yf, yr, ou) 6 (nI n)) : wpY_apply post (yd, yg, yN, yi, yo, yV, yF, yC, (nI s), yft, ybt, res, yer, ypl, ypr, rn, hs, gv, gt, op, a, b, pa, fi, nx, yp, wn, wu, gn, ge, wv, yl, ya, ye, yk, yt, yc, yst, yf, yr, ou) (nI (112 * s + w)) (nI n) v := by
  have e2 := nc_ (n := n) (by omega)
  have e3 := nc_ (n := 3 * (112 * s + w)) (by omega)
  have vn := vi_ (n := n) (N := 96) hn (by omega)
  have v3 : vp_in (3 * nI (112 * s + w)) 2352 := by rw [ix_3]; exact vi_ (by omega) (by omega)
  refine ⟨vn, nm_r (e' := op n) (by rw [e2]) ⟨v3, nm_r (e' := yk (3 * (112 * s + w))) (by rw [ix_3, e3]) ?_⟩⟩
  rw [ho]
  exact br_t (by decide) (br_f (by decide) (br_f (by decide) (br_f (by decide) (br_f (by decide) (br_f (by decide) (br_f (by decide) (br_f (by decide) (br_f (by decide) (br_t rfl (br_t (by rw [h0]; rfl) K))))))))))
theorem y_a17b {s w n : Nat} {v : Int64} (h7 : s < 7) (hw : w < 112) (hn : n < 96) (ho : op n = 17) (h0 : 1 ≤ s) (K : wpY_leave post (yd, yg, yN, yi, yo, yV, yF, yC, (nI s), yft, ybt, res, yer, ypl, ypr, rn, hs, gv, gt, op, a, b, pa, fi, nx, yp, wn, wu, gn, ge, wv, yl, ya, ye, yk, yt, yc, yst, yf, yr, ou) 0 v) : wpY_apply post (yd, yg, yN, yi, yo, yV, yF, yC, (nI s), yft, ybt, res, yer, ypl, ypr, rn, hs, gv, gt, op, a, b, pa, fi, nx, yp, wn, wu, gn, ge, wv, yl, ya, ye, yk, yt, yc, yst, yf, yr, ou) (nI (112 * s + w)) (nI n) v := by
  have e2 := nc_ (n := n) (by omega)
  have e3 := nc_ (n := 3 * (112 * s + w)) (by omega)
  have vn := vi_ (n := n) (N := 96) hn (by omega)
  have v3 : vp_in (3 * nI (112 * s + w)) 2352 := by rw [ix_3]; exact vi_ (by omega) (by omega)
  refine ⟨vn, nm_r (e' := op n) (by rw [e2]) ⟨v3, nm_r (e' := yk (3 * (112 * s + w))) (by rw [ix_3, e3]) ?_⟩⟩
  rw [ho]
  exact br_t (by decide) (br_f (by decide) (br_f (by decide) (br_f (by decide) (br_f (by decide) (br_f (by decide) (br_f (by decide) (br_f (by decide) (br_f (by decide) (br_t rfl (br_f (nI_ne0 (by omega) (by omega)) K))))))))))
theorem y_a18a {s w n : Nat} {v : Int64} (h7 : s < 7) (hw : w < 112) (hn : n < 96) (ho : op n = 18) (hf : ¬ 12884901888 ≤ v) (K : wpY_raise post (yd, yg, yN, yi, yo, yV, yF, yC, (nI s), yft, ybt, res, yer, ypl, ypr, rn, hs, gv, gt, op, a, b, pa, fi, nx, yp, wn, wu, gn, ge, wv, yl, ya, ye, yk, yt, yc, yst, yf, yr, ou) 2 (nI n)) : wpY_apply post (yd, yg, yN, yi, yo, yV, yF, yC, (nI s), yft, ybt, res, yer, ypl, ypr, rn, hs, gv, gt, op, a, b, pa, fi, nx, yp, wn, wu, gn, ge, wv, yl, ya, ye, yk, yt, yc, yst, yf, yr, ou) (nI (112 * s + w)) (nI n) v := by
  have e2 := nc_ (n := n) (by omega)
  have e3 := nc_ (n := 3 * (112 * s + w)) (by omega)
  have vn := vi_ (n := n) (N := 96) hn (by omega)
  have v3 : vp_in (3 * nI (112 * s + w)) 2352 := by rw [ix_3]; exact vi_ (by omega) (by omega)
  refine ⟨vn, nm_r (e' := op n) (by rw [e2]) ⟨v3, nm_r (e' := yk (3 * (112 * s + w))) (by rw [ix_3, e3]) ?_⟩⟩
  rw [ho]
  exact br_t (by decide) (br_f (by decide) (br_f (by decide) (br_f (by decide) (br_f (by decide) (br_f (by decide) (br_f (by decide) (br_f (by decide) (br_f (by decide) (br_f (by decide) (br_f hf K))))))))))
theorem y_a14a {s w n : Nat} {v : Int64} (h7 : s < 7) (hw : w < 112) (hn : n < 96) (ho : op n = 14) {m : Nat} (hm : m < 24) (K : wpY_finish post (yd, yg, yN, yi, yo, yV, yF, yC, (nI s), yft, ybt, res, yer, ypl, (nI (m + 1)), rn, hs, gv, gt, op, a, b, pa, fi, nx, yp, wn, wu, gn, ge, wv, yl, ya, ye, yk, yt, yc, yst, yf, yr, (vp_updL ou m v)) v) : wpY_apply post (yd, yg, yN, yi, yo, yV, yF, yC, (nI s), yft, ybt, res, yer, ypl, (nI m), rn, hs, gv, gt, op, a, b, pa, fi, nx, yp, wn, wu, gn, ge, wv, yl, ya, ye, yk, yt, yc, yst, yf, yr, ou) (nI (112 * s + w)) (nI n) v := by
  have e2 := nc_ (n := n) (by omega)
  have e3 := nc_ (n := 3 * (112 * s + w)) (by omega)
  have vn := vi_ (n := n) (N := 96) hn (by omega)
  have v3 : vp_in (3 * nI (112 * s + w)) 2352 := by rw [ix_3]; exact vi_ (by omega) (by omega)
  refine ⟨vn, nm_r (e' := op n) (by rw [e2]) ⟨v3, nm_r (e' := yk (3 * (112 * s + w))) (by rw [ix_3, e3]) ?_⟩⟩
  rw [ho]
  exact br_t (by decide) (br_f (by decide) (br_f (by decide) (br_f (by decide) (br_f (by decide) (br_f (by decide) (br_t rfl (br_f (nI_ge (b := 24) hm (by omega)) ⟨vi_ hm (by omega), nm_r (e' := vp_updL ou m v) (by rw [nc_ (by omega)]) (nm_r (nI_1 m) K)⟩)))))))
theorem y_a14b {s w n : Nat} {v : Int64} (h7 : s < 7) (hw : w < 112) (hn : n < 96) (ho : op n = 14) {m : Nat} (hm : 24 ≤ m) (hm2 : m < 2147483648) (K : wpY_finish post (yd, yg, yN, yi, yo, yV, yF, yC, (nI s), yft, ybt, res, yer, ypl, (nI (m + 1)), rn, hs, gv, gt, op, a, b, pa, fi, nx, yp, wn, wu, gn, ge, wv, yl, ya, ye, yk, yt, yc, yst, yf, yr, ou) v) : wpY_apply post (yd, yg, yN, yi, yo, yV, yF, yC, (nI s), yft, ybt, res, yer, ypl, (nI m), rn, hs, gv, gt, op, a, b, pa, fi, nx, yp, wn, wu, gn, ge, wv, yl, ya, ye, yk, yt, yc, yst, yf, yr, ou) (nI (112 * s + w)) (nI n) v := by
  have e2 := nc_ (n := n) (by omega)
  have e3 := nc_ (n := 3 * (112 * s + w)) (by omega)
  have vn := vi_ (n := n) (N := 96) hn (by omega)
  have v3 : vp_in (3 * nI (112 * s + w)) 2352 := by rw [ix_3]; exact vi_ (by omega) (by omega)
  refine ⟨vn, nm_r (e' := op n) (by rw [e2]) ⟨v3, nm_r (e' := yk (3 * (112 * s + w))) (by rw [ix_3, e3]) ?_⟩⟩
  rw [ho]
  exact br_t (by decide) (br_f (by decide) (br_f (by decide) (br_f (by decide) (br_f (by decide) (br_f (by decide) (br_t rfl (br_t (nI_le (a := 24) hm hm2) (nm_r (nI_1 m) K))))))))
theorem y_a18b {c : Nat} {s w n : Nat} (h7 : s < 7) (hw : w < 112) (hn : n < 96) (ho : op n = 18) {v : Int64} (hc : c < 6) (hle : 12884901888 ≤ v) (hx : (v - 12884901888).toInt32 + 1 = nI (c + 1)) (K : wpY_finish post (yd, yg, yN, yi, yo, yV, yF, yC, (nI s), yft, ybt, res, yer, ypl, ypr, rn, hs, gv, gt, op, a, b, pa, fi, nx, yp, wn, wu, gn, ge, wv, yl, ya, ye, yk, yt, yc, yst, yf, yr, ou) (yst (c + 1)).toInt64) : wpY_apply post (yd, yg, yN, yi, yo, yV, yF, yC, (nI s), yft, ybt, res, yer, ypl, ypr, rn, hs, gv, gt, op, a, b, pa, fi, nx, yp, wn, wu, gn, ge, wv, yl, ya, ye, yk, yt, yc, yst, yf, yr, ou) (nI (112 * s + w)) (nI n) v := by
  have e2 := nc_ (n := n) (by omega)
  have e3 := nc_ (n := 3 * (112 * s + w)) (by omega)
  have vn := vi_ (n := n) (N := 96) hn (by omega)
  have v3 : vp_in (3 * nI (112 * s + w)) 2352 := by rw [ix_3]; exact vi_ (by omega) (by omega)
  have ec := nc_ (n := c + 1) (by omega)
  refine ⟨vn, nm_r (e' := op n) (by rw [e2]) ⟨v3, nm_r (e' := yk (3 * (112 * s + w))) (by rw [ix_3, e3]) ?_⟩⟩
  rw [ho]
  refine br_t (by decide) (br_f (by decide) (br_f (by decide) (br_f (by decide) (br_f (by decide) (br_f (by decide) (br_f (by decide) (br_f (by decide) (br_f (by decide) (br_f (by decide) (br_t hle ?_))))))))))
  rw [hx, ec]
  exact ⟨vi_ (by omega) (by omega), K⟩
theorem y_arR {n : Nat} {o : Int32} {x y : Int64} (h : (∀ q : Int32 → Prop, q 0 → wpY_number q (yd, yg, yN, yi, yo, yV, yF, yC, ys, yft, ybt, res, yer, ypl, ypr, rn, hs, gv, gt, op, a, b, pa, fi, nx, yp, wn, wu, gn, ge, wv, yl, ya, ye, yk, yt, yc, yst, yf, yr, ou) x) ∨ ((∀ q : Int32 → Prop, q 1 → wpY_number q (yd, yg, yN, yi, yo, yV, yF, yC, ys, yft, ybt, res, yer, ypl, ypr, rn, hs, gv, gt, op, a, b, pa, fi, nx, yp, wn, wu, gn, ge, wv, yl, ya, ye, yk, yt, yc, yst, yf, yr, ou) x) ∧ (∀ q : Int32 → Prop, q 0 → wpY_number q (yd, yg, yN, yi, yo, yV, yF, yC, ys, yft, ybt, res, yer, ypl, ypr, rn, hs, gv, gt, op, a, b, pa, fi, nx, yp, wn, wu, gn, ge, wv, yl, ya, ye, yk, yt, yc, yst, yf, yr, ou) y))) (K : wpY_raise post (yd, yg, yN, yi, yo, yV, yF, yC, ys, yft, ybt, res, yer, ypl, ypr, rn, hs, gv, gt, op, a, b, pa, fi, nx, yp, wn, wu, gn, ge, wv, yl, ya, ye, yk, yt, yc, yst, yf, yr, ou) 1 (nI n)) : wpY_arithmetic post (yd, yg, yN, yi, yo, yV, yF, yC, ys, yft, ybt, res, yer, ypl, ypr, rn, hs, gv, gt, op, a, b, pa, fi, nx, yp, wn, wu, gn, ge, wv, yl, ya, ye, yk, yt, yc, yst, yf, yr, ou) (nI n) o x y := by
  unfold wpY_arithmetic
  dsimp only
  rcases h with h | h
  · refine h _ ?_
    exact br_t rfl K
  · refine h.1 _ ?_
    refine br_f (by decide) (h.2 _ ?_)
    exact br_t rfl K
theorem y_arN {n o m k : Nat} (ho : o < 4) (h1 : ∀ q : Int32 → Prop, q 1 → wpY_number q (yd, yg, yN, yi, yo, yV, yF, yC, ys, yft, ybt, res, yer, ypl, ypr, rn, hs, gv, gt, op, a, b, pa, fi, nx, yp, wn, wu, gn, ge, wv, yl, ya, ye, yk, yt, yc, yst, yf, yr, ou) (lN m)) (h2 : ∀ q : Int32 → Prop, q 1 → wpY_number q (yd, yg, yN, yi, yo, yV, yF, yC, ys, yft, ybt, res, yer, ypl, ypr, rn, hs, gv, gt, op, a, b, pa, fi, nx, yp, wn, wu, gn, ge, wv, yl, ya, ye, yk, yt, yc, yst, yf, yr, ou) (lN k)) (K : wpY_finish post (yd, yg, yN, yi, yo, yV, yF, yC, ys, yft, ybt, res, yer, ypl, ypr, rn, hs, gv, gt, op, a, b, pa, fi, nx, yp, wn, wu, gn, ge, wv, yl, ya, ye, yk, yt, yc, yst, yf, yr, ou) (lN (cv_n (ar_ o (nI m) (nI k))))) : wpY_arithmetic post (yd, yg, yN, yi, yo, yV, yF, yC, ys, yft, ybt, res, yer, ypl, ypr, rn, hs, gv, gt, op, a, b, pa, fi, nx, yp, wn, wu, gn, ge, wv, yl, ya, ye, yk, yt, yc, yst, yf, yr, ou) (nI n) (nI o) (lN m) (lN k) := by
  unfold wpY_arithmetic
  dsimp only
  refine h1 _ (br_f (by decide) (h2 _ (br_f (by decide) ?_)))
  rw [lN_i, lN_i]
  have ne : ∀ j, j < 4 → j ≠ o → ¬ nI o = nI j := by
    intro j hj hjo e
    have := (nI_eq (by omega) (by omega)).mp e
    omega
  have A : ∀ z : Int32, wpY_finish post (yd, yg, yN, yi, yo, yV, yF, yC, ys, yft, ybt, res, yer, ypl, ypr, rn, hs, gv, gt, op, a, b, pa, fi, nx, yp, wn, wu, gn, ge, wv, yl, ya, ye, yk, yt, yc, yst, yf, yr, ou) (lN (cv_n z)) → wY_arithmetic_83 post z yd yg yN yi yo yV yF yC ys yft ybt res yer ypl ypr rn hs gv gt op a b pa fi nx yp wn wu gn ge wv yl ya ye yk yt yc yst yf yr ou := by
    intro z hz
    unfold wY_arithmetic_83
    rw [vo_and]
    exact hz
  by_cases c0 : o = 0
  · subst c0
    exact br_t rfl (A _ K)
  by_cases c1 : o = 1
  · subst c1
    exact br_f (by decide) (br_t rfl (A _ K))
  by_cases c2 : o = 2
  · subst c2
    exact br_f (by decide) (br_f (by decide) (br_t rfl (A _ K)))
  · refine br_f (ne 0 (by omega) (by omega)) (br_f (ne 1 (by omega) (by omega)) (br_f (ne 2 (by omega) (by omega)) ?_))
    unfold ar_ at K
    rw [if_neg c0, if_neg c1, if_neg c2] at K
    exact br_c (fun h => by rw [if_pos h] at K; exact A _ K) (fun h => by rw [if_neg h] at K; exact A _ K)
end
section
variable {xd xg xN xL xF xV xC xs ph : Int32} {cr : Int64} {ec en ft bt pr : Int32} {op a b xp fi xl nx xo fn fe vn vo : Nat → Int32} {vv : Nat → Int64} {xst xf xr xh xc fN fX fS fT : Nat → Int32} {fL pv : Nat → Int64}
variable {post : SX → Prop}
theorem x_arR {i m : Nat} {x y : Int64} (hi : i < 896) (hn : fN i = nI m) (hy : fL (i * 4 + 1) = y) (h : (∀ q : Int32 → Prop, q 0 → wpX_isNumber q x) ∨ ((∀ q : Int32 → Prop, q 1 → wpX_isNumber q x) ∧ (∀ q : Int32 → Prop, q 0 → wpX_isNumber q y))) (K : wpX_raise post (xd, xg, xN, xL, xF, xV, xC, xs, ph, cr, ec, en, ft, bt, pr, op, a, b, xp, fi, xl, nx, xo, fn, fe, vn, vo, vv, xst, xf, xr, xh, xc, fN, fX, fS, fT, fL, pv) 1 (nI m)) : wpX_concludeArithmetic post (xd, xg, xN, xL, xF, xV, xC, xs, ph, cr, ec, en, ft, bt, pr, op, a, b, xp, fi, xl, nx, xo, fn, fe, vn, vo, vv, xst, xf, xr, xh, xc, fN, fX, fS, fT, fL, pv) (nI i) x := by
  have ei := nc_ (n := i) (by omega)
  have e5 := nc_ (n := i * 4 + 1) (by omega)
  have wi := vi_ (n := i) (N := 896) hi (by omega)
  have w5 : vp_in (nI i * 4 + 1) 3584 := by rw [ix_41]; exact vi_ (by omega) (by omega)
  refine ⟨wi, nm_r (e' := nI m) (by rw [ei, hn]) ⟨w5, nm_r (e' := y) (by rw [ix_41, e5, hy]) ?_⟩⟩
  rcases h with h | h
  · exact h _ (br_t rfl K)
  · exact h.1 _ (br_f (by decide) (h.2 _ (br_t rfl K)))
theorem x_arN {i m n1 n2 o : Nat} (hi : i < 896) (hn : fN i = nI m) (hm : m < 96) (hop : op m = nI o) (ho : o < 4) (hy : fL (i * 4 + 1) = lN (n2 + 4294967296)) (h1 : ∀ q : Int32 → Prop, q 1 → wpX_isNumber q (lN (n1 + 4294967296))) (h2 : ∀ q : Int32 → Prop, q 1 → wpX_isNumber q (lN (n2 + 4294967296))) (K : wpX_finishNumber post (xd, xg, xN, xL, xF, xV, xC, xs, ph, cr, ec, en, ft, bt, pr, op, a, b, xp, fi, xl, nx, xo, fn, fe, vn, vo, vv, xst, xf, xr, xh, xc, fN, fX, fS, fT, fL, pv) (ar_ o (nI n1) (nI n2))) : wpX_concludeArithmetic post (xd, xg, xN, xL, xF, xV, xC, xs, ph, cr, ec, en, ft, bt, pr, op, a, b, xp, fi, xl, nx, xo, fn, fe, vn, vo, vv, xst, xf, xr, xh, xc, fN, fX, fS, fT, fL, pv) (nI i) (lN (n1 + 4294967296)) := by
  have ei := nc_ (n := i) (by omega)
  have em := nc_ (n := m) (by omega)
  have e5 := nc_ (n := i * 4 + 1) (by omega)
  have wi := vi_ (n := i) (N := 896) hi (by omega)
  have wm := vi_ (n := m) (N := 96) hm (by omega)
  have w5 : vp_in (nI i * 4 + 1) 3584 := by rw [ix_41]; exact vi_ (by omega) (by omega)
  refine ⟨wi, nm_r (e' := nI m) (by rw [ei, hn]) ⟨w5, nm_r (e' := lN (n2 + 4294967296)) (by rw [ix_41, e5, hy]) (h1 _ (br_f (by decide) (h2 _ (br_f (by decide) ⟨wm, nm_r (e' := nI o) (by rw [em, hop]) ?_⟩))))⟩⟩
  rw [vo_i1, vo_i1]
  refine br_f (nI_pos (by omega)) ?_
  by_cases c3 : o = 3
  · subst c3
    refine br_t (by decide) ?_
    exact br_c (fun h => by unfold ar_ at K; rw [if_neg (by omega), if_neg (by omega), if_neg (by omega), if_pos h] at K; exact K) (fun h => by unfold ar_ at K; rw [if_neg (by omega), if_neg (by omega), if_neg (by omega), if_neg h] at K; exact K)
  refine br_f (nI_nlt (a := 2) (by omega) (by omega)) ?_
  by_cases c0 : o = 0
  · subst c0
    exact br_t rfl K
  by_cases c1 : o = 1
  · subst c1
    exact br_f (by decide) (br_t rfl K)
  · obtain rfl : o = 2 := by omega
    exact br_f (by decide) (br_f (by decide) (br_t rfl K))
theorem x_set {s h m p : Nat} {x : Int64} (hs : s < 7) (hb : h < 128) (hh : xh s = nI (h + 1)) (hn : fN (s * 128 + h) = nI m) (hm : m < 96) (hp : p < 120) (hf : ∀ q : Int32 → Prop, q (nI (p + 1)) → wpX_findVariable q (xd, xg, xN, xL, xF, xV, xC, (nI s), ph, cr, ec, en, ft, bt, pr, op, a, b, xp, fi, xl, nx, xo, fn, fe, vn, vo, vv, xst, xf, xr, xh, xc, fN, fX, fS, fT, fL, pv) (a m) (fS (s * 128 + h))) (K : post (xd, xg, xN, xL, xF, xV, xC, (nI s), (-2), x, ec, en, ft, bt, pr, op, a, b, xp, fi, xl, nx, xo, fn, fe, vn, vo, (vp_updL vv (p + 1) x), xst, xf, xr, (upd xh s (nI h)), xc, fN, fX, fS, fT, fL, pv)) : wpX_concludeSet post (xd, xg, xN, xL, xF, xV, xC, (nI s), ph, cr, ec, en, ft, bt, pr, op, a, b, xp, fi, xl, nx, xo, fn, fe, vn, vo, vv, xst, xf, xr, xh, xc, fN, fX, fS, fT, fL, pv) (nI (s * 128 + h)) x := by
  have ei := nc_ (n := s * 128 + h) (by omega)
  have em := nc_ (n := m) (by omega)
  have ep := nc_ (n := p + 1) (by omega)
  have wi := vi_ (n := s * 128 + h) (N := 896) (by omega) (by omega)
  refine ⟨wi, ?_, wi, ?_⟩
  · rw [ei, hn]; exact vi_ hm (by omega)
  · rw [ei, hn, em]
    exact hf _ ⟨vi_ (by omega) (by omega), nm_r (e' := vp_updL vv (p + 1) x) (by rw [ep]) (x_finish hs hh K)⟩
theorem x_errA {i m : Nat} {x : Int64} (hi : i < 896) (hn : fN i = nI m) (hf : ∀ q : Int32 → Prop, q 0 → wpX_isNumber q x) (K : wpX_raise post (xd, xg, xN, xL, xF, xV, xC, xs, ph, cr, ec, en, ft, bt, pr, op, a, b, xp, fi, xl, nx, xo, fn, fe, vn, vo, vv, xst, xf, xr, xh, xc, fN, fX, fS, fT, fL, pv) 1 (nI m)) : wpX_concludeError post (xd, xg, xN, xL, xF, xV, xC, xs, ph, cr, ec, en, ft, bt, pr, op, a, b, xp, fi, xl, nx, xo, fn, fe, vn, vo, vv, xst, xf, xr, xh, xc, fN, fX, fS, fT, fL, pv) (nI i) x := by
  unfold wpX_concludeError
  dsimp only
  refine hf _ (br_t rfl ⟨vi_ hi (by omega), ?_⟩)
  rw [nc_ (by omega), hn]; exact K
theorem x_errB {i m : Nat} {x : Int64} (hi : i < 896) (hn : fN i = nI m) (hf : ∀ q : Int32 → Prop, q 1 → wpX_isNumber q x) (K : wpX_raise post (xd, xg, xN, xL, xF, xV, xC, xs, ph, cr, ec, en, ft, bt, pr, op, a, b, xp, fi, xl, nx, xo, fn, fe, vn, vo, vv, xst, xf, xr, xh, xc, fN, fX, fS, fT, fL, pv) x.toInt32 (nI m)) : wpX_concludeError post (xd, xg, xN, xL, xF, xV, xC, xs, ph, cr, ec, en, ft, bt, pr, op, a, b, xp, fi, xl, nx, xo, fn, fe, vn, vo, vv, xst, xf, xr, xh, xc, fN, fX, fS, fT, fL, pv) (nI i) x := by
  unfold wpX_concludeError
  dsimp only
  refine hf _ (br_f (by decide) ⟨vi_ hi (by omega), ?_⟩)
  rw [nc_ (by omega), hn]; exact K
theorem x_prA {m : Nat} {x : Int64} (hm : m < 24) (K : wpX_finish post (xd, xg, xN, xL, xF, xV, xC, xs, ph, cr, ec, en, ft, bt, (nI (m + 1)), op, a, b, xp, fi, xl, nx, xo, fn, fe, vn, vo, vv, xst, xf, xr, xh, xc, fN, fX, fS, fT, fL, (vp_updL pv m x)) x) : wpX_concludePrint post (xd, xg, xN, xL, xF, xV, xC, xs, ph, cr, ec, en, ft, bt, (nI m), op, a, b, xp, fi, xl, nx, xo, fn, fe, vn, vo, vv, xst, xf, xr, xh, xc, fN, fX, fS, fT, fL, pv) x := by
  exact br_f (nI_ge (b := 24) hm (by omega)) ⟨vi_ hm (by omega), nm_r (e' := vp_updL pv m x) (by rw [nc_ (by omega)]) (nm_r (nI_1 m) K)⟩
theorem x_prB {m : Nat} {x : Int64} (hm : 24 ≤ m) (hm2 : m < 2147483648) (K : wpX_finish post (xd, xg, xN, xL, xF, xV, xC, xs, ph, cr, ec, en, ft, bt, (nI (m + 1)), op, a, b, xp, fi, xl, nx, xo, fn, fe, vn, vo, vv, xst, xf, xr, xh, xc, fN, fX, fS, fT, fL, pv) x) : wpX_concludePrint post (xd, xg, xN, xL, xF, xV, xC, xs, ph, cr, ec, en, ft, bt, (nI m), op, a, b, xp, fi, xl, nx, xo, fn, fe, vn, vo, vv, xst, xf, xr, xh, xc, fN, fX, fS, fT, fL, pv) x := br_t (nI_le (a := 24) hm hm2) (nm_r (nI_1 m) K)
theorem x_yieldA {i m : Nat} {x : Int64} (hi : i < 896) (hn : fN i = nI m) (K : wpX_raise post (xd, xg, xN, xL, xF, xV, xC, (nI 0), ph, cr, ec, en, ft, bt, pr, op, a, b, xp, fi, xl, nx, xo, fn, fe, vn, vo, vv, xst, xf, xr, xh, xc, fN, fX, fS, fT, fL, pv) 6 (nI m)) : wpX_concludeYield post (xd, xg, xN, xL, xF, xV, xC, (nI 0), ph, cr, ec, en, ft, bt, pr, op, a, b, xp, fi, xl, nx, xo, fn, fe, vn, vo, vv, xst, xf, xr, xh, xc, fN, fX, fS, fT, fL, pv) (nI i) x := by
  refine br_t rfl ⟨vi_ hi (by omega), ?_⟩
  rw [nc_ (by omega), hn]; exact K
theorem x_yieldB {s r h : Nat} {i : Int32} {x : Int64} (h0 : 1 ≤ s) (hs : s < 7) (hr : r < 7) (hx : xr s = nI r) (hh : xh r = nI (h + 1)) (K : post (xd, xg, xN, xL, xF, xV, xC, (nI r), (-2), x, ec, en, ft, bt, pr, op, a, b, xp, fi, xl, nx, xo, fn, fe, vn, vo, vv, (upd xst s 0), xf, xr, (upd xh r (nI h)), xc, fN, fX, fS, fT, fL, pv)) : wpX_concludeYield post (xd, xg, xN, xL, xF, xV, xC, (nI s), ph, cr, ec, en, ft, bt, pr, op, a, b, xp, fi, xl, nx, xo, fn, fe, vn, vo, vv, xst, xf, xr, xh, xc, fN, fX, fS, fT, fL, pv) i x := by
  have e := nc_ (n := s) (by omega)
  exact br_f (nI_ne0 (by omega) (by omega)) ⟨vi_ hs (by omega), nm_r (e' := upd xst s 0) (by rw [e]) (x_hb hs hr hx hh K)⟩
theorem x_statA {i m : Nat} {x : Int64} {k : Int32} (hi : i < 896) (hn : fN i = nI m) (hk : k ≠ 3) (hf : ∀ q : Int32 → Prop, q k → wpX_kindOf q x) (K : wpX_raise post (xd, xg, xN, xL, xF, xV, xC, xs, ph, cr, ec, en, ft, bt, pr, op, a, b, xp, fi, xl, nx, xo, fn, fe, vn, vo, vv, xst, xf, xr, xh, xc, fN, fX, fS, fT, fL, pv) 2 (nI m)) : wpX_concludeStatus post (xd, xg, xN, xL, xF, xV, xC, xs, ph, cr, ec, en, ft, bt, pr, op, a, b, xp, fi, xl, nx, xo, fn, fe, vn, vo, vv, xst, xf, xr, xh, xc, fN, fX, fS, fT, fL, pv) (nI i) x := by
  unfold wpX_concludeStatus
  dsimp only
  refine hf _ (br_f hk ⟨vi_ hi (by omega), ?_⟩)
  rw [nc_ (by omega), hn]; exact K
theorem x_statB {c : Nat} {i : Int32} {x : Int64} (hc : c < 6) (hx : x.toInt32 = nI (c + 1)) (hf : ∀ q : Int32 → Prop, q 3 → wpX_kindOf q x) (K : wpX_finishNumber post (xd, xg, xN, xL, xF, xV, xC, xs, ph, cr, ec, en, ft, bt, pr, op, a, b, xp, fi, xl, nx, xo, fn, fe, vn, vo, vv, xst, xf, xr, xh, xc, fN, fX, fS, fT, fL, pv) (xst (c + 1))) : wpX_concludeStatus post (xd, xg, xN, xL, xF, xV, xC, xs, ph, cr, ec, en, ft, bt, pr, op, a, b, xp, fi, xl, nx, xo, fn, fe, vn, vo, vv, xst, xf, xr, xh, xc, fN, fX, fS, fT, fL, pv) i x := by
  unfold wpX_concludeStatus
  dsimp only
  refine hf _ (br_t rfl ?_)
  rw [hx, nc_ (by omega)]
  exact ⟨vi_ (by omega) (by omega), K⟩
end
