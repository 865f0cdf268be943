section
variable {op a b fi nx pa : Nat → Int32} {N : Nat} {oc pc E lv : Nat → Nat} {kd : Nat → Nat → Nat} {SC : Nat → Int32 → Prop}
variable {F C V : Nat} {D : Nat → Int32 → Prop} {K T : Nat → Nat → Nat} {fN fX fS fT : Nat → Int32} {fL : Nat → Int64} {yl ya ye : Nat → Int32} {yk : Nat → Int64} {P H : Nat → Nat} {dep : Nat} {xh xc yt yc fn fe gn ge vn vo : Nat → Int32} {vv : Nat → Int64} {wn wu : Nat → Int32} {wv : Nat → Int64} {xst xf xr yst yf yr : Nat → Int32} {Q : Nat → Nat} {k s h : Nat}
variable {fu : Nat} {xN xL : Int32} {xp xl xo : Nat → Int32} {yN yi yo : Int32} {yp : Nat → Int32}
variable {ph ec en ft : Int32} {cr gv gt : Int64} {q w φ : Nat} {pv ou : Nat → Int64} {hs : Int32}
theorem up_same {f : Nat → Int32} {i : Nat} {x y : Int32} : upd (upd f i x) i y = upd f i y := by
  funext j
  unfold upd
  by_cases h : j = i
  · rw [if_pos h, if_pos h]
  · rw [if_neg h, if_neg h, if_neg h]
/-- both sides find the same variable -/
theorem xy_find {c : Int32} (hV : (cd_V F C V D vn vo vv wn wu wv)) (hV2 : V ≤ 120) : ∀ e, e ≤ V → D e c → ∃ p, p < V ∧ (∀ (post : Int32 → Prop) (n i : Nat), i + e ≤ 120 → post (nI (p + 1)) → wX_findVariable_5 post c (nI dep) (nI fu) xN xL (nI F) (nI V) (nI C) (nI s) ph cr ec en ft (nI q) (nI w) op a b xp fi xl nx xo fn fe vn vo vv xst xf xr xh xc fN fX fS fT fL pv (n + e + 1) (nI e) (nI i)) ∧ (∀ (post : Int32 → Prop) (n : Nat), post (nI p) → wY_find_2 post c (nI dep) (nI fu) yN yi yo (nI V) (nI F) (nI C) (nI s) ft (nI q) 0 0 (-1) (nI w) 1 hs gv gt op a b pa fi nx yp wn wu gn ge wv yl ya ye yk yt yc yst yf yr ou (n + e) (nI e - 1)) := by
  intro e
  induction e using Nat.strongRecOn with
  | _ e ih =>
    intro he hD
    rcases Nat.eq_zero_or_pos e with hz | hz
    · subst hz; exact absurd hD (hV.1 c)
    · obtain ⟨v, rfl⟩ : ∃ v, e = v + 1 := ⟨e - 1, by omega⟩
      obtain ⟨g1, g2, o, g3, g4, g5, g6⟩ := hV.2 v (by omega)
      have e1 := nc_ (n := v + 1) (by omega)
      have e2 := nc_ (n := v) (by omega)
      have w1 := vi_ (n := v + 1) (N := 121) (by omega) (by omega)
      have w2 := vi_ (n := v) (N := 120) (by omega) (by omega)
      by_cases hc : wn v = c
      · refine ⟨v, by omega, fun post n i hi hp => ?_, fun post n hp => ?_⟩
        · refine br_f (nI_ge (b := 120) (by omega) (by omega)) (br_f (nI_ne0 (by omega) (by omega)) ⟨w1, br_t ?_ hp⟩)
          rw [e1, g1]; exact hc
        · rw [nI_pred]
          refine ⟨w2, br_t ?_ hp⟩
          rw [e2]; exact hc
      · obtain ⟨p, hp, hX, hY⟩ := ih o (by omega) (by omega) ((g6 c hD).resolve_left hc)
        refine ⟨p, hp, fun post n i hi hq => ?_, fun post n hq => ?_⟩
        · refine br_f (nI_ge (b := 120) (by omega) (by omega)) (br_f (nI_ne0 (by omega) (by omega)) ⟨w1, br_f ?_ ⟨w1, nm_r (e' := nI o) (by rw [e1]; exact g4) (nm_r (nI_1 i) ?_)⟩⟩)
          · rw [e1, g1]; exact hc
          · have := hX post (n + (v - o)) (i + 1) (by omega) hq
            rw [show n + (v - o) + o + 1 = n + (v + 1) by omega] at this
            exact this
        · rw [nI_pred]
          refine ⟨w2, br_f ?_ ⟨w2, nm_r (e' := nI o - 1) (by rw [e2]; exact g5) ?_⟩⟩
          · rw [e2]; exact hc
          · have := hY post (n + (v - o)) hq
            rw [show n + (v - o) + o = n + v by omega] at this
            exact this
/-- a value is carried at once -/
theorem cr_now {d : Nat} (ht : (ct_all op a b fi nx pa N oc pc E lv kd SC)) (h1 : (cc_C N oc pc E lv kd a b SC F C V D K T fN fX fS fT fL yl ya ye yk P H dep xh xc yt yc fn fe gn ge vn vo vv wn wu wv xst xf xr yst yf yr Q k s h)) (hK : K s h ≤ dep) (hxh : xh s = nI h) (hyt : yt s = nI (h + K s h - cz_ s)) (hx : xc s = nI (K s h)) (hy : yc s = nI (K s h)) (hsh : 1 ≤ s → 1 ≤ h) (hk : (cr_K φ fu q w F C P pv ou)) (hd : T s h + 2 + d ≤ P s) (hv : cv_R F C cr gt) :
    cr_T op a b fi nx pa N oc pc E lv kd SC dep fu xN xL xp xl xo yN yi yo yp φ d ((nI dep), (nI fu), xN, xL, (nI F), (nI V), (nI C), (nI s), (-2), cr, ec, en, ft, (nI q), (nI w), op, a, b, xp, fi, xl, nx, xo, fn, fe, vn, vo, vv, xst, xf, xr, xh, xc, fN, fX, fS, fT, fL, pv) ((nI dep), (nI fu), yN, yi, yo, (nI V), (nI F), (nI C), (nI s), ft, (nI q), 0, 0, (-1), (nI w), 1, 1, gv, gt, op, a, b, pa, fi, nx, yp, wn, wu, gn, ge, wv, yl, ya, ye, yk, yt, yc, yst, yf, yr, ou) := by
  have h7 := (cc_s h1).2
  have h6 := cc_dep h1
  have hh := cf_h ht (cc_FR h1) (by omega)
  obtain ⟨φ', hφ, hk'⟩ := cr_P (P' := ch_ P s (T s h + 2)) hk h7 rfl hd
  refine cr_mkA hφ (cc_fr ht h1 (by omega) (by omega) (fun _ _ _ => rfl) (fun _ _ _ => rfl) ca_r ca_r ca_r ca_r ca_r ca_r ca_r ca_r ca_r ca_c ca_r ca_r ca_r ca_r) ⟨⟨hK, ?_, hsh⟩, hxh, hyt, hx, hy⟩ hk' hv
  rw [ch_s]; exact Nat.le_refl _
/-- a table with one other entry -/
def kt_ (T : Nat → Nat → Nat) (s j v : Nat) : Nat → Nat → Nat := fun r i => if r = s ∧ i = j then v else T r i
theorem kt_s {T : Nat → Nat → Nat} {s j v : Nat} : kt_ T s j v s j = v := if_pos ⟨rfl, rfl⟩
theorem kt_n {T : Nat → Nat → Nat} {s j v r i : Nat} (h : r ≠ s ∨ i ≠ j) : kt_ T s j v r i = T r i := if_neg (fun z => by omega)
/-- a new frame whose first part is next -/
theorem cr_new {m e k1 d φ' q' : Nat} (ht : (ct_all op a b fi nx pa N oc pc E lv kd SC)) (h1 : (cc_C N oc pc E lv kd a b SC F C V D K T fN fX fS fT fL yl ya ye yk P H dep xh xc yt yc fn fe gn ge vn vo vv wn wu wv xst xf xr yst yf yr Q k s h)) (hK : K s h ≤ dep) (hk1 : k1 = K s h + (if oc m = 10 then 1 else 0)) (hkd : k1 ≤ dep) (hz : cz_ s ≤ k1) (hm : m < N) (ho : oc m < 19) (hp : 0 < pc m) (he : e ≤ V) (hD : ∀ c, ct_in oc a b SC m 0 c → D e c) (hlev : h + 1 + k1 ≤ 16 * k1 + lv m + cz_ s) (hx : xc s = nI k1) (hy : yc s = nI k1)
    (hφ : φ' + d ≤ φ) (hk' : (cr_K φ' fu q' w F C (ch_ P s (T s h + 4 * (E m - kd m 0) + 3)) pv ou)) :
    cr_T op a b fi nx pa N oc pc E lv kd SC dep fu xN xL xp xl xo yN yi yo yp φ d ((nI dep), (nI fu), xN, xL, (nI F), (nI V), (nI C), (nI s), (-1), cr, ec, en, ft, (nI q'), (nI w), op, a, b, xp, fi, xl, nx, xo, fn, fe, vn, vo, vv, xst, xf, xr, (upd xh s (nI (h + 1))), xc, (upd fN (s * 128 + h) (nI m)), (upd fX (s * 128 + h) (nI (kd m 0))), (upd fS (s * 128 + h) (nI e)), (upd fT (s * 128 + h) 0), (vp_updL fL ((s * 128 + h) * 4) 0), pv) ((nI dep), (nI fu), yN, yi, yo, (nI V), (nI F), (nI C), (nI s), ft, (nI q'), 0, 0, (-1), (nI w), 1, 0, gv, gt, op, a, b, pa, fi, nx, yp, wn, wu, gn, ge, wv, (upd yl (112 * s + (h + k1 - cz_ s)) (nI m)), (upd ya (112 * s + (h + k1 - cz_ s)) 0), (upd ye (112 * s + (h + k1 - cz_ s)) (nI e - 1)), yk, (upd yt s (nI (h + 1 + k1 - cz_ s))), yc, yst, yf, yr, ou) := by
  have h7 := (cc_s h1).2
  have h6 := cc_dep h1
  have hh := cf_h ht (cc_FR h1) (by omega)
  have hl := (ht.2.2.2.2 m hm).2.2.2.1.2 (by omega)
  have hzl := cz_le s
  have hkk : K s h ≤ k1 := by omega
  have hcy : cy_ (kt_ K s (h + 1) k1) s h = 112 * s + (h + k1 - cz_ s) := by unfold cy_; rw [kt_s]
  refine cr_mkB (K := kt_ K s (h + 1) k1) (T := kt_ T s (h + 1) (T s h + 4 * (E m - kd m 0) + 3)) (P := ch_ P s (T s h + 4 * (E m - kd m 0) + 3)) hφ (cc_fr ht h1 (by omega) (by omega) (fun r j hr => kt_n (by omega)) (fun r j hr => kt_n (by omega)) (ca_u ca_r (by omega) (by omega)) (ca_u ca_r (by omega) (by omega)) (ca_u ca_r (by omega) (by omega)) (ca_u ca_r (by omega) (by omega)) (ca_l ca_r (by omega) (by omega)) (ca_u ca_r (by omega) (by omega)) (ca_u ca_r (by omega) (by omega)) (ca_u ca_r (by omega) (by omega)) ca_r ca_c (ca_u ca_r (by omega) (by omega)) ca_r (ca_u ca_r (by omega) (by omega)) ca_r) ?_ ⟨⟨?_, ?_⟩, pk_us, ?_, ?_, ?_⟩ hk'
  · refine ⟨m, 0, e, ⟨⟨hm, ho, hp, he⟩, ⟨pk_us, ?_, pk_us⟩, ⟨?_, ?_, ?_⟩, hD, ?_, ?_⟩, pk_us, ?_⟩
    · rw [pk_us]
      have : ct_tk (oc m) 0 = 0 := by unfold ct_tk; split <;> rfl
      rw [this]; rfl
    · rw [hcy, pk_us]
    · rw [hcy, pk_us]; rfl
    · rw [hcy, pk_us]
    · refine ⟨fun _ _ => ?_, fun _ q hq => by omega⟩
      exact pk_uLs
    · rw [kt_s, kt_n (by omega)]; exact ⟨hk1, hz, hlev⟩
    · rw [kt_s, kt_n (by omega)]; exact Nat.le_refl _
  · rw [kt_s]; exact hkd
  · rw [kt_s, ch_s]; exact Nat.le_refl _
  · rw [kt_s]; exact pk_us
  · rw [kt_s]; exact hx
  · rw [kt_s]; exact hy
end
