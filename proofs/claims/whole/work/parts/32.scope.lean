section
variable {xd xg xN xL xF xV xC xs ph : Int32} {cr : Int64} {ec en ft bt pr : Int32} {op a b xp fi xl nx xo fn fe vn vo : Nat → Int32} {vv : Nat → Int64} {xst xf xr xh xc fN fX fS fT : Nat → Int32} {fL pv : Nat → Int64}
/-- does list n make variable c -/
theorem x_makes {n o p : Nat} {oc : Nat → Nat} {c : Int32} (hn : n < 96) (ho : op n = nI o) (hoc : oc n = o) (ho2 : o ≤ 21) (hp : xp n = nI p) (hp9 : p < 1000) : (cb_mk oc a b n p c ∧ ∀ q : Int32 → Prop, q 1 → wpX_makesVariable q (xd, xg, xN, xL, xF, xV, xC, xs, ph, cr, ec, en, ft, bt, pr, op, a, b, xp, fi, xl, nx, xo, fn, fe, vn, vo, vv, xst, xf, xr, xh, xc, fN, fX, fS, fT, fL, pv) (nI n) c) ∨ (¬ cb_mk oc a b n p c ∧ ∀ q : Int32 → Prop, q 0 → wpX_makesVariable q (xd, xg, xN, xL, xF, xV, xC, xs, ph, cr, ec, en, ft, bt, pr, op, a, b, xp, fi, xl, nx, xo, fn, fe, vn, vo, vv, xst, xf, xr, xh, xc, fN, fX, fS, fT, fL, pv) (nI n) c) := by
  have e := nc_ (n := n) (by omega)
  have w := vi_ (n := n) (N := 96) hn (by omega)
  have ne : ∀ j, j < 30 → j ≠ o → ¬ op n = nI j := by
    intro j hj hjo e
    rw [ho] at e
    have := (nI_eq (by omega) (by omega)).mp e
    omega
  by_cases c10 : o = 10
  · have o10 : op n = 10 := by rw [ho, c10]; rfl
    by_cases h1 : c < a n
    · refine Or.inr ⟨fun h => ?_, fun q hq => ?_⟩
      · rcases h with h | h
        · omega
        · exact absurd h1 (Int32.not_lt.mpr h.2.1)
      · unfold wpX_makesVariable
        dsimp only
        rw [e]
        exact ⟨w, br_t o10 ⟨w, br_t h1 hq⟩⟩
    · by_cases h2 : a n + b n ≤ c
      · refine Or.inr ⟨fun h => ?_, fun q hq => ?_⟩
        · rcases h with h | h
          · omega
          · exact absurd h.2.2 (Int32.not_lt.mpr h2)
        · unfold wpX_makesVariable
          dsimp only
          rw [e]
          exact ⟨w, br_t o10 ⟨w, br_f h1 ⟨w, w, br_t h2 hq⟩⟩⟩
      · refine Or.inl ⟨Or.inr ⟨by omega, Int32.not_lt.mp h1, Int32.not_le.mp h2⟩, fun q hq => ?_⟩
        unfold wpX_makesVariable
        dsimp only
        rw [e]
        exact ⟨w, br_t o10 ⟨w, br_f h1 ⟨w, w, br_f h2 hq⟩⟩⟩
  · have n10 : ¬ op n = 10 := ne 10 (by omega) (by omega)
    by_cases c8 : o = 8
    · have o8 : op n = 8 := by rw [ho, c8]; rfl
      rcases Nat.eq_zero_or_pos p with h0 | h0
      · refine Or.inr ⟨fun h => ?_, fun q hq => ?_⟩
        · rcases h with h | h
          · omega
          · omega
        · unfold wpX_makesVariable
          dsimp only
          rw [e, hp, h0]
          exact ⟨w, br_f n10 ⟨w, br_t o8 ⟨w, br_t (by decide) hq⟩⟩⟩
      · by_cases h1 : a n = c
        · refine Or.inl ⟨Or.inl ⟨by omega, h0, h1⟩, fun q hq => ?_⟩
          unfold wpX_makesVariable
          dsimp only
          rw [e, hp]
          exact ⟨w, br_f n10 ⟨w, br_t o8 ⟨w, br_f (nI_nle h0 (by omega)) ⟨w, br_t h1 hq⟩⟩⟩⟩
        · refine Or.inr ⟨fun h => ?_, fun q hq => ?_⟩
          · rcases h with h | h
            · exact h1 h.2.2
            · omega
          · unfold wpX_makesVariable
            dsimp only
            rw [e, hp]
            exact ⟨w, br_f n10 ⟨w, br_t o8 ⟨w, br_f (nI_nle h0 (by omega)) ⟨w, br_f h1 hq⟩⟩⟩⟩
    · refine Or.inr ⟨fun h => ?_, fun q hq => ?_⟩
      · rcases h with h | h
        · omega
        · omega
      · unfold wpX_makesVariable
        dsimp only
        rw [e]
        exact ⟨w, br_f n10 ⟨w, br_f (ne 8 (by omega) (by omega)) hq⟩⟩
theorem x_sc {L : Nat} {st oc pc : Nat → Nat} {c : Int32} (hL : L ≤ 16) (hs : ∀ i, i < L → st i < 96 ∧ xo i = nI (st i) ∧ op (st i) = nI (oc (st i)) ∧ oc (st i) ≤ 21 ∧ xp (st i) = nI (cb_q L st pc i) ∧ cb_q L st pc i < 1000) : (cb_sc L st oc pc a b c ∧ ∀ q : Int32 → Prop, q 1 → wpX_inScope q (xd, xg, xN, (nI L), xF, xV, xC, xs, ph, cr, ec, en, ft, bt, pr, op, a, b, xp, fi, xl, nx, xo, fn, fe, vn, vo, vv, xst, xf, xr, xh, xc, fN, fX, fS, fT, fL, pv) c) ∨ (¬ cb_sc L st oc pc a b c ∧ ∀ q : Int32 → Prop, q 0 → wpX_inScope q (xd, xg, xN, (nI L), xF, xV, xC, xs, ph, cr, ec, en, ft, bt, pr, op, a, b, xp, fi, xl, nx, xo, fn, fe, vn, vo, vv, xst, xf, xr, xh, xc, fN, fX, fS, fT, fL, pv) c) := by
  have A : ∀ d i, i + d = L → (∀ j, j < i → ¬ cb_mk oc a b (st j) (cb_q L st pc j) c) → (cb_sc L st oc pc a b c ∧ ∀ (q : Int32 → Prop) (f : Nat), q 1 → wX_inScope_2 q c xd xg xN (nI L) xF xV xC xs ph cr ec en ft bt pr op a b xp fi xl nx xo fn fe vn vo vv xst xf xr xh xc fN fX fS fT fL pv (f + d + 1) (nI i)) ∨ (¬ cb_sc L st oc pc a b c ∧ ∀ (q : Int32 → Prop) (f : Nat), q 0 → wX_inScope_2 q c xd xg xN (nI L) xF xV xC xs ph cr ec en ft bt pr op a b xp fi xl nx xo fn fe vn vo vv xst xf xr xh xc fN fX fS fT fL pv (f + d + 1) (nI i)) := by
    intro d
    induction d with
    | zero =>
      intro i hi hj
      obtain rfl : i = L := by omega
      refine Or.inr ⟨fun h => ?_, fun q f hq => br_t (nI_le (Nat.le_refl _) (by omega)) hq⟩
      obtain ⟨j, h1, h2⟩ := h
      exact hj j h1 h2
    | succ d ih =>
      intro i hi hj
      obtain ⟨s1, s2, s3, s4, s5, s6⟩ := hs i (by omega)
      have e := nc_ (n := i) (by omega)
      have w := vi_ (n := i) (N := 16) (by omega) (by omega)
      have hge : ¬ nI L ≤ nI i := nI_ge (by omega) (by omega)
      rcases x_makes (xL := nI L) (oc := oc) (c := c) s1 s3 rfl s4 s5 s6 with ⟨m1, m2⟩ | ⟨m1, m2⟩
      · refine Or.inl ⟨⟨i, by omega, m1⟩, fun q f hq => br_f hge ⟨w, ?_⟩⟩
        rw [e, s2]
        exact m2 _ (br_f (by decide) hq)
      · rcases ih (i + 1) (by omega) (fun j h1 => by
          by_cases h2 : j = i
          · rw [h2]; exact m1
          · exact hj j (by omega)) with ⟨n1, n2⟩ | ⟨n1, n2⟩
        · refine Or.inl ⟨n1, fun q f hq => br_f hge ⟨w, ?_⟩⟩
          rw [e, s2]
          exact m2 _ (br_t rfl (nm_r (nI_1 i) (n2 q f hq)))
        · refine Or.inr ⟨n1, fun q f hq => br_f hge ⟨w, ?_⟩⟩
          rw [e, s2]
          exact m2 _ (br_t rfl (nm_r (nI_1 i) (n2 q f hq)))
  rcases A L 0 (by omega) (fun j hj => by omega) with ⟨n1, n2⟩ | ⟨n1, n2⟩
  · exact Or.inl ⟨n1, fun q hq => ⟨0 + L + 1, n2 q 0 hq⟩⟩
  · exact Or.inr ⟨n1, fun q hq => ⟨0 + L + 1, n2 q 0 hq⟩⟩
end
section
variable {yd yg yN yi yo yV yF yC ys yft ybt res yer ypl ypr rn hs : Int32} {gv gt : Int64} {op a b pa fi nx yp wn wu gn ge : Nat → Int32} {wv : Nat → Int64} {yl ya ye : Nat → Int32} {yk : Nat → Int64} {yt yc yst yf yr : Nat → Int32} {ou : Nat → Int64}
theorem y_sc {L : Nat} {st oc pc : Nat → Nat} {c : Int32} (hL : L ≤ 16) (hi0 : yi = if L = 0 then -1 else nI (st (L - 1))) (hst : ∀ i, i < L → st i < 96 ∧ op (st i) = nI (oc (st i)) ∧ oc (st i) ≤ 21 ∧ pa (st i) = (if i = 0 then -1 else nI (st (i - 1))) ∧ yp (st i) = nI (pc (st i)) ∧ pc (st i) < 1000 ∧ (i + 1 < L → 0 < pc (st i))) : (cb_sc L st oc pc a b c → ∀ q : Int32 → Prop, q 1 → wpY_inScope q (yd, yg, yN, yi, yo, yV, yF, yC, ys, yft, ybt, res, yer, ypl, ypr, rn, hs, gv, gt, op, a, b, pa, fi, nx, yp, wn, wu, gn, ge, wv, yl, ya, ye, yk, yt, yc, yst, yf, yr, ou) c) ∧ (¬ cb_sc L st oc pc a b c → ∀ q : Int32 → Prop, q 0 → wpY_inScope q (yd, yg, yN, yi, yo, yV, yF, yC, ys, yft, ybt, res, yer, ypl, ypr, rn, hs, gv, gt, op, a, b, pa, fi, nx, yp, wn, wu, gn, ge, wv, yl, ya, ye, yk, yt, yc, yst, yf, yr, ou) c) := by
  have A : ∀ i, i ≤ L → (∀ j, i ≤ j → j < L → ¬ cb_mk oc a b (st j) (cb_q L st pc j) c) → (cb_sc L st oc pc a b c → ∀ (q : Int32 → Prop) (f : Nat), q 1 → wY_inScope_20 q c yd yg yN yi yo yV yF yC ys yft ybt res yer ypl ypr rn hs gv gt op a b pa fi nx yp wn wu gn ge wv yl ya ye yk yt yc yst yf yr ou (f + i + 1) (if i = 0 then -1 else nI (st (i - 1))) (if i = 0 then 0 else nI (cb_q L st pc (i - 1)))) ∧ (¬ cb_sc L st oc pc a b c → ∀ (q : Int32 → Prop) (f : Nat), q 0 → wY_inScope_20 q c yd yg yN yi yo yV yF yC ys yft ybt res yer ypl ypr rn hs gv gt op a b pa fi nx yp wn wu gn ge wv yl ya ye yk yt yc yst yf yr ou (f + i + 1) (if i = 0 then -1 else nI (st (i - 1))) (if i = 0 then 0 else nI (cb_q L st pc (i - 1)))) := by
    intro i
    induction i with
    | zero =>
      intro _ hj
      refine ⟨fun h => ?_, fun h q f hq => br_t (by rw [if_pos rfl]; decide) hq⟩
      obtain ⟨j, h1, h2⟩ := h
      exact absurd h2 (hj j (by omega) h1)
    | succ i ih =>
      intro hi hj
      obtain ⟨s1, s2, s3, s4, s5, s6, s7⟩ := hst i (by omega)
      have e := nc_ (n := st i) (by omega)
      have w := vi_ (n := st i) (N := 96) s1 (by omega)
      have hq9 : cb_q L st pc i < 1000 := by unfold cb_q; split <;> omega
      rw [if_neg (show ¬ i + 1 = 0 by omega), if_neg (show ¬ i + 1 = 0 by omega), Nat.add_sub_cancel]
      have ne : ∀ j, j < 30 → j ≠ oc (st i) → ¬ op (st i) = nI j := by
        intro j hj hjo e
        rw [s2] at e
        have := (nI_eq (by omega) (by omega)).mp e
        omega
      -- the step outwards
      have out_ : ∀ (q : Int32 → Prop) (J : Int32 → Int32 → Prop), J (if i = 0 then -1 else nI (st (i - 1))) (if i = 0 then 0 else nI (cb_q L st pc (i - 1))) → wY_inScope_91 q J c (nI (st i)) yd yg yN yi yo yV yF yC ys yft ybt res yer ypl ypr rn hs gv gt op a b pa fi nx yp wn wu gn ge wv yl ya ye yk yt yc yst yf yr ou := by
        intro q J hJ
        refine ⟨w, nm_r (e' := if i = 0 then -1 else nI (st (i - 1))) (by rw [e]; exact s4) ?_⟩
        by_cases h0 : i = 0
        · rw [if_pos h0]
          rw [if_pos h0, if_pos h0] at hJ
          exact br_f (by decide) hJ
        · rw [if_neg h0]
          rw [if_neg h0, if_neg h0] at hJ
          obtain ⟨t1, t2, t3, t4, t5, t6, t7⟩ := hst (i - 1) (by omega)
          have e' := nc_ (n := st (i - 1)) (by omega)
          have t8 := t7 (by omega)
          refine br_t (nI_pos' (by omega)) ⟨vi_ t1 (by omega), nm_r (e' := nI (cb_q L st pc (i - 1))) ?_ hJ⟩
          rw [e', t5]
          unfold cb_q
          rw [if_pos (by omega)]
          obtain ⟨p, hp⟩ : ∃ p, pc (st (i - 1)) = p + 1 := ⟨pc (st (i - 1)) - 1, by omega⟩
          rw [hp, nI_pred, Nat.add_sub_cancel]
      have fun_ : ∀ (q : Int32 → Prop) (J : Int32 → Int32 → Prop), (oc (st i) = 10 ∧ a (st i) ≤ c ∧ c < a (st i) + b (st i) → q 1) → (¬ (oc (st i) = 10 ∧ a (st i) ≤ c ∧ c < a (st i) + b (st i)) → wY_inScope_91 q J c (nI (st i)) yd yg yN yi yo yV yF yC ys yft ybt res yer ypl ypr rn hs gv gt op a b pa fi nx yp wn wu gn ge wv yl ya ye yk yt yc yst yf yr ou) → wY_inScope_51 q J c (nI (st i)) yd yg yN yi yo yV yF yC ys yft ybt res yer ypl ypr rn hs gv gt op a b pa fi nx yp wn wu gn ge wv yl ya ye yk yt yc yst yf yr ou := by
        intro q J h1 h2
        unfold wY_inScope_51
        rw [e]
        refine ⟨w, br_c (fun o10 => ⟨w, br_c (fun h3 => h2 (fun h => absurd h3 (Int32.not_lt.mpr h.2.1))) (fun h3 => ⟨w, w, br_c (fun h4 => h2 (fun h => absurd h.2.2 (Int32.not_lt.mpr h4))) (fun h4 => h1 ⟨?_, Int32.not_lt.mp h3, Int32.not_le.mp h4⟩)⟩)⟩) (fun o10 => h2 (fun h => o10 (by rw [s2, h.1]; rfl)))⟩
        rw [s2] at o10
        exact (nI_eq (a := oc (st i)) (b := 10) (by omega) (by omega)).mp o10
      have loc_ : ∀ (q : Int32 → Prop) (f : Nat), (cb_mk oc a b (st i) (cb_q L st pc i) c → q 1) → (¬ cb_mk oc a b (st i) (cb_q L st pc i) c → wY_inScope_20 q c yd yg yN yi yo yV yF yC ys yft ybt res yer ypl ypr rn hs gv gt op a b pa fi nx yp wn wu gn ge wv yl ya ye yk yt yc yst yf yr ou (f + (i + 1)) (if i = 0 then -1 else nI (st (i - 1))) (if i = 0 then 0 else nI (cb_q L st pc (i - 1)))) → wY_inScope_20 q c yd yg yN yi yo yV yF yC ys yft ybt res yer ypl ypr rn hs gv gt op a b pa fi nx yp wn wu gn ge wv yl ya ye yk yt yc yst yf yr ou (f + (i + 1) + 1) (nI (st i)) (nI (cb_q L st pc i)) := by
        intro q f h1 h2
        have k51 : ¬ (oc (st i) = 8 ∧ 0 < cb_q L st pc i ∧ a (st i) = c) → wY_inScope_51 q (wY_inScope_20 q c yd yg yN yi yo yV yF yC ys yft ybt res yer ypl ypr rn hs gv gt op a b pa fi nx yp wn wu gn ge wv yl ya ye yk yt yc yst yf yr ou (f + (i + 1))) c (nI (st i)) yd yg yN yi yo yV yF yC ys yft ybt res yer ypl ypr rn hs gv gt op a b pa fi nx yp wn wu gn ge wv yl ya ye yk yt yc yst yf yr ou := fun h3 => fun_ _ _ (fun h4 => h1 (Or.inr h4)) (fun h4 => out_ _ _ (h2 (fun h => by
          rcases h with h | h
          · exact h3 h
          · exact h4 h)))
        refine br_f (nI_pos (by omega)) ⟨w, br_c (fun o8 => ⟨w, br_c (fun ha => br_c (fun hle => k51 (fun h => ?_)) (fun hle => h1 (Or.inl ⟨?_, ?_, ?_⟩))) (fun ha => k51 (fun h => ?_))⟩) (fun o8 => k51 (fun h => ?_))⟩
        · exact absurd hle (nI_nle h.2.1 (by omega))
        · rw [e, s2] at o8
          exact (nI_eq (a := oc (st i)) (b := 8) (by omega) (by omega)).mp o8
        · rcases Nat.eq_zero_or_pos (cb_q L st pc i) with hz | hz
          · rw [hz] at hle; exact absurd (by decide) hle
          · exact hz
        · rw [e] at ha; exact ha
        · rw [e] at ha; exact ha h.2.2
        · rw [e] at o8; exact o8 (by rw [s2, h.1]; rfl)
      by_cases hm : cb_mk oc a b (st i) (cb_q L st pc i) c
      · exact ⟨fun _ q f hq => loc_ q f (fun _ => hq) (fun h => absurd hm h), fun h => absurd ⟨i, by omega, hm⟩ h⟩
      · have ih' := ih (by omega) (fun j h1 h2 => by
          by_cases h3 : j = i
          · rw [h3]; exact hm
          · exact hj j (by omega) h2)
        exact ⟨fun h q f hq => loc_ q f (fun h2 => absurd h2 hm) (fun _ => ih'.1 h q f hq), fun h q f hq => loc_ q f (fun h2 => absurd h2 hm) (fun _ => ih'.2 h q f hq)⟩
  have B := A L (Nat.le_refl _) (fun j h1 h2 => by omega)
  have go : ∀ (q : Int32 → Prop), (wY_inScope_20 q c yd yg yN yi yo yV yF yC ys yft ybt res yer ypl ypr rn hs gv gt op a b pa fi nx yp wn wu gn ge wv yl ya ye yk yt yc yst yf yr ou (0 + L + 1) (if L = 0 then -1 else nI (st (L - 1))) (if L = 0 then 0 else nI (cb_q L st pc (L - 1)))) → wpY_inScope q (yd, yg, yN, yi, yo, yV, yF, yC, ys, yft, ybt, res, yer, ypl, ypr, rn, hs, gv, gt, op, a, b, pa, fi, nx, yp, wn, wu, gn, ge, wv, yl, ya, ye, yk, yt, yc, yst, yf, yr, ou) c := by
    intro q h
    by_cases h0 : L = 0
    · rw [if_pos h0, if_pos h0] at h
      rw [if_pos h0] at hi0
      subst hi0
      exact br_f (by decide) ⟨_, h⟩
    · rw [if_neg h0, if_neg h0] at h
      rw [if_neg h0] at hi0
      subst hi0
      obtain ⟨t1, t2, t3, t4, t5, t6, t7⟩ := hst (L - 1) (by omega)
      have e' := nc_ (n := st (L - 1)) (by omega)
      refine br_t (nI_pos' (by omega)) ⟨vi_ t1 (by omega), nm_r (e' := nI (cb_q L st pc (L - 1))) ?_ ⟨_, h⟩⟩
      rw [e', t5]
      unfold cb_q
      rw [if_neg (by omega)]
  exact ⟨fun h q hq => go q (B.1 h q 0 hq), fun h q hq => go q (B.2 h q 0 hq)⟩
end
