section
variable {op a b fi nx pa : Nat → Int32} {N : Nat} {oc pc E lv : Nat → Nat} {kd : Nat → Nat → Nat} {SC : Nat → Int32 → Prop}
variable {F C V : Nat} {D : Nat → Int32 → Prop} {K T : Nat → Nat → Nat} {fN fX fS fT : Nat → Int32} {fL : Nat → Int64} {yl ya ye : Nat → Int32} {yk : Nat → Int64} {P H : Nat → Nat} {dep : Nat} {xh xc yt yc fn fe gn ge vn vo : Nat → Int32} {vv : Nat → Int64} {wn wu : Nat → Int32} {wv : Nat → Int64} {xst xf xr yst yf yr : Nat → Int32} {Q : Nat → Nat} {k s h : Nat}
variable {F' C' V' : Nat} {D' : Nat → Int32 → Prop} {K' T' : Nat → Nat → Nat} {fN' fX' fS' fT' : Nat → Int32} {fL' : Nat → Int64} {yl' ya' ye' : Nat → Int32} {yk' : Nat → Int64} {P' H' : Nat → Nat} {xh' xc' yt' yc' fn' fe' gn' ge' vn' vo' : Nat → Int32} {vv' : Nat → Int64} {wn' wu' : Nat → Int32} {wv' : Nat → Int64}
theorem cz_le (s : Nat) : cz_ s ≤ 1 := by unfold cz_; split <;> omega
theorem cz_0 : cz_ 0 = 0 := rfl
theorem cz_1 {s : Nat} (h : 1 ≤ s) : cz_ s = 1 := if_neg (by omega)
theorem cc_up (h1 : (cc_C N oc pc E lv kd a b SC F C V D K T fN fX fS fT fL yl ya ye yk P H dep xh xc yt yc fn fe gn ge vn vo vv wn wu wv xst xf xr yst yf yr Q k s h)) (h2 : (cf_FX N oc pc E lv kd a b SC F C V D K T fN fX fS fT fL yl ya ye yk s h)) : (cc_C N oc pc E lv kd a b SC F C V D K T fN fX fS fT fL yl ya ye yk P H dep xh xc yt yc fn fe gn ge vn vo vv wn wu wv xst xf xr yst yf yr Q k s (h + 1)) := by
  obtain ⟨g1, g2, g3, g4, g5, g6, g7, g8, g9⟩ := h1
  refine ⟨g1, g2, g3, g4, g5, g6, g7, g8, fun j hj => ?_⟩
  rcases Nat.lt_or_ge j h with hl | hl
  · exact g9 j hl
  · rw [show j = h by omega]; exact h2
theorem cc_dn (h1 : (cc_C N oc pc E lv kd a b SC F C V D K T fN fX fS fT fL yl ya ye yk P H dep xh xc yt yc fn fe gn ge vn vo vv wn wu wv xst xf xr yst yf yr Q k s (h + 1))) : (cc_C N oc pc E lv kd a b SC F C V D K T fN fX fS fT fL yl ya ye yk P H dep xh xc yt yc fn fe gn ge vn vo vv wn wu wv xst xf xr yst yf yr Q k s h) ∧ (cf_FX N oc pc E lv kd a b SC F C V D K T fN fX fS fT fL yl ya ye yk s h) := by
  obtain ⟨g1, g2, g3, g4, g5, g6, g7, g8, g9⟩ := h1
  exact ⟨⟨g1, g2, g3, g4, g5, g6, g7, g8, fun j hj => g9 j (by omega)⟩, g9 h (by omega)⟩
theorem cc_to {m : Nat} (h1 : (cc_C N oc pc E lv kd a b SC F C V D K T fN fX fS fT fL yl ya ye yk P H dep xh xc yt yc fn fe gn ge vn vo vv wn wu wv xst xf xr yst yf yr Q k s h)) (hm : m ≤ h) : (cc_C N oc pc E lv kd a b SC F C V D K T fN fX fS fT fL yl ya ye yk P H dep xh xc yt yc fn fe gn ge vn vo vv wn wu wv xst xf xr yst yf yr Q k s m) := by
  obtain ⟨g1, g2, g3, g4, g5, g6, g7, g8, g9⟩ := h1
  exact ⟨g1, g2, g3, g4, g5, g6, g7, g8, fun j hj => g9 j (by omega)⟩
theorem cc_s (h1 : (cc_C N oc pc E lv kd a b SC F C V D K T fN fX fS fT fL yl ya ye yk P H dep xh xc yt yc fn fe gn ge vn vo vv wn wu wv xst xf xr yst yf yr Q k s h)) : s ≤ C ∧ s < 7 := by
  obtain ⟨g1, _, _, _, g5, _⟩ := h1
  rcases Nat.eq_zero_or_pos k with hk | hk
  · have := g5.1
    rw [← hk, g1.2.2.2.2.2] at this
    omega
  · have := g5.2.2.1 k hk (Nat.le_refl _)
    rw [g1.2.2.2.2.2] at this
    omega
theorem cs_S_go {r : Nat} (ht : (ct_all op a b fi nx pa N oc pc E lv kd SC)) (h1 : (cs_S N oc pc E lv kd a b SC F C V D K T fN fX fS fT fL yl ya ye yk P H dep xh xc yt yc r)) (hr : r ≠ s) (hd : dep ≤ 6) (hF : F ≤ F') (hC : C ≤ C') (hV : V ≤ V') (hD : ∀ e, e ≤ V → ∀ c, D e c → D' e c) (kK : K' r = K r) (kT : T' r = T r)
    (aN : ca_ (s * 128) (s * 128 + 128) fN fN') (aX : ca_ (s * 128) (s * 128 + 128) fX fX') (aS : ca_ (s * 128) (s * 128 + 128) fS fS') (aT : ca_ (s * 128) (s * 128 + 128) fT fT') (aL : ca_ (s * 128 * 4) ((s * 128 + 128) * 4) fL fL')
    (bl : ca_ (112 * s) (112 * s + 112) yl yl') (ba : ca_ (112 * s) (112 * s + 112) ya ya') (be : ca_ (112 * s) (112 * s + 112) ye ye') (bk : ca_ (3 * (112 * s)) (3 * (112 * s + 112)) yk yk')
    (cP : P' r = P r) (cH : H' r = H r) (c1 : xh' r = xh r) (c2 : xc' r = xc r) (c3 : yt' r = yt r) (c4 : yc' r = yc r) :
    (cs_S N oc pc E lv kd a b SC F' C' V' D' K' T' fN' fX' fS' fT' fL' yl' ya' ye' yk' P' H' dep xh' xc' yt' yc' r) := by
  obtain ⟨h2, ⟨e1, e2, e3, e4, e4'⟩, ⟨e5, e6, e7, e8⟩, n, e9, e10, e11⟩ := h1
  unfold cs_S
  rw [kK, kT, cP, cH, c1, c2, c3, c4]
  have hh : H r < 128 := by
    rcases Nat.eq_zero_or_pos (H r) with hz | hz
    · omega
    · have k1 := cf_Kle h2 (H r - (H r - 1 + 1)) (H r - 1 + 1) (by omega)
      have := (cf_bd ht (h2 (H r - 1) (by omega)) (by omega)).2.1
      omega
  refine ⟨cf_FR_go ht h2 (by omega) hF hC hV hD (fun j _ => by rw [kK]) (fun j _ => by rw [kT]) (fun i h3 h4 => aN i (by omega)) (fun i h3 h4 => aX i (by omega)) (fun i h3 h4 => aS i (by omega)) (fun i h3 h4 => aT i (by omega)) (fun i h3 h4 => aL i (by omega)) (fun i h3 h4 => bl i (by omega)) (fun i h3 h4 => ba i (by omega)) (fun i h3 h4 => be i (by omega)) (fun i h3 h4 => bk i (by omega)), ⟨e1, e2, e3, e4, e4'⟩, ⟨e5, e6, e7, e8⟩, n, e9, e10, ?_⟩
  rw [bl _ (by omega)]
  exact e11
theorem cd_V_F (h : (cd_V F C V D vn vo vv wn wu wv)) (hF : F ≤ F') (hC : C ≤ C') : (cd_V F' C' V D vn vo vv wn wu wv) := ⟨h.1, fun v hv => ⟨(h.2 v hv).1, cv_mono hF hC (h.2 v hv).2.1, (h.2 v hv).2.2⟩⟩
theorem cd_F_V (h : (cd_F N oc SC F C V D fn fe gn ge)) (hV : V ≤ V') (hD : ∀ e, e ≤ V → ∀ c, D e c → D' e c) : (cd_F N oc SC F C' V' D' fn fe gn ge) := by
  intro f hf
  obtain ⟨n, e, g1, g2, g3, g4, g5, g6, g7, g8⟩ := h f hf
  exact ⟨n, e, g1, g2, by omega, g4, g5, g6, g7, fun c hc => hD e g3 c (g8 c hc)⟩
theorem cs_C_go {r : Nat} (h1 : (cs_C N oc pc E lv kd a b SC F C V D K T fN fX fS fT fL yl ya ye yk P H dep xh xc yt yc fn xst xf yst yf r)) (hF : F ≤ F') (gf : ∀ f, f < F → fn' f = fn f) (hS : (cs_S N oc pc E lv kd a b SC F C V D K T fN fX fS fT fL yl ya ye yk P H dep xh xc yt yc r) → (cs_S N oc pc E lv kd a b SC F' C' V' D' K' T' fN' fX' fS' fT' fL' yl' ya' ye' yk' P' H' dep xh' xc' yt' yc' r))
    (c1 : xh' r = xh r) (c2 : xc' r = xc r) (c3 : yt' r = yt r) (c4 : yc' r = yc r) :
    (cs_C N oc pc E lv kd a b SC F' C' V' D' K' T' fN' fX' fS' fT' fL' yl' ya' ye' yk' P' H' dep xh' xc' yt' yc' fn' xst xf yst yf r) := by
  obtain ⟨g1, ⟨f, n, q, e1, e2, e3, e4, e5, e6⟩, g3⟩ := h1
  refine ⟨g1, ⟨f, n, q, by omega, e2, e3, (gf f e1).trans e4, e5, e6⟩, fun hx => ?_⟩
  rcases g3 hx with g | g
  · exact Or.inl (by rw [c1, c2, c3, c4]; exact g)
  · exact Or.inr (hS g)
/-- what the active strand has above its h waiting frames may change, and more variables and functions may come -/
theorem cc_go (ht : (ct_all op a b fi nx pa N oc pc E lv kd SC)) (h1 : (cc_C N oc pc E lv kd a b SC F C V D K T fN fX fS fT fL yl ya ye yk P H dep xh xc yt yc fn fe gn ge vn vo vv wn wu wv xst xf xr yst yf yr Q k s h)) (hK : K s h ≤ 6) (hh : h ≤ 128) (hF : F ≤ F') (hF4 : F' ≤ 40) (hV : V ≤ V') (hV2 : V' ≤ 120) (hD : ∀ e, e ≤ V → ∀ c, D e c → D' e c)
    (nV : (cd_V F' C V' D' vn' vo' vv' wn' wu' wv')) (nF : (cd_F N oc SC F' C V' D' fn' fe' gn' ge')) (gf : ∀ f, f < F → fn' f = fn f)
    (kK : ∀ r j, (r ≠ s ∨ j ≤ h) → K' r j = K r j) (kT : ∀ r j, (r ≠ s ∨ j ≤ h) → T' r j = T r j)
    (aN : ca_ (s * 128 + h) (s * 128 + 128) fN fN') (aX : ca_ (s * 128 + h) (s * 128 + 128) fX fX') (aS : ca_ (s * 128 + h) (s * 128 + 128) fS fS') (aT : ca_ (s * 128 + h) (s * 128 + 128) fT fT') (aL : ca_ ((s * 128 + h) * 4) ((s * 128 + 128) * 4) fL fL')
    (bl : ca_ (112 * s + (h + K s h - cz_ s)) (112 * s + 112) yl yl') (ba : ca_ (112 * s + (h + K s h - cz_ s)) (112 * s + 112) ya ya') (be : ca_ (112 * s + (h + K s h - cz_ s)) (112 * s + 112) ye ye') (bk : ca_ (3 * (112 * s + (h + K s h - cz_ s))) (3 * (112 * s + 112)) yk yk')
    (cP : ca_ s (s + 1) P P') (cH : ca_ s (s + 1) H H') (c1 : ca_ s (s + 1) xh xh') (c2 : ca_ s (s + 1) xc xc') (c3 : ca_ s (s + 1) yt yt') (c4 : ca_ s (s + 1) yc yc') :
    (cc_C N oc pc E lv kd a b SC F' C V' D' K' T' fN' fX' fS' fT' fL' yl' ya' ye' yk' P' H' dep xh' xc' yt' yc' fn' fe' gn' ge' vn' vo' vv' wn' wu' wv' xst xf xr yst yf yr Q k s h) := by
  have hs := cc_s h1
  obtain ⟨⟨g1, g2, g3, g4, g5, g6⟩, gK, _, _, gQ, gS, gC, gZ, gF⟩ := h1
  have S1 : ∀ r, r ≠ s → (cs_S N oc pc E lv kd a b SC F C V D K T fN fX fS fT fL yl ya ye yk P H dep xh xc yt yc r) → (cs_S N oc pc E lv kd a b SC F' C V' D' K' T' fN' fX' fS' fT' fL' yl' ya' ye' yk' P' H' dep xh' xc' yt' yc' r) := fun r hr hS =>
    cs_S_go ht hS hr g4 hF (Nat.le_refl _) hV hD (funext fun j => kK r j (Or.inl hr)) (funext fun j => kT r j (Or.inl hr)) (ca_w aN (by omega) (by omega)) (ca_w aX (by omega) (by omega)) (ca_w aS (by omega) (by omega)) (ca_w aT (by omega) (by omega)) (ca_w aL (by omega) (by omega)) (ca_w bl (by omega) (by omega)) (ca_w ba (by omega) (by omega)) (ca_w be (by omega) (by omega)) (ca_w bk (by omega) (by omega)) (cP r (by omega)) (cH r (by omega)) (c1 r (by omega)) (c2 r (by omega)) (c3 r (by omega)) (c4 r (by omega))
  refine ⟨⟨hF4, g2, hV2, g4, g5, g6⟩, fun r => (kK r 0 (Or.inr (Nat.zero_le _))).trans (gK r), nV, nF, gQ, fun i hi => ?_, fun c hc1 hc2 => ?_, fun c hc1 hc2 => ?_, ?_⟩
  · refine S1 (Q i) (fun e => ?_) (gS i hi)
    have := gQ.2.1 i k (by omega) (Nat.le_refl _) (e.trans g6.symm)
    omega
  · by_cases hcs : c = s
    · have hk : 1 ≤ k := by
        rcases Nat.eq_zero_or_pos k with hk | hk
        · have := gQ.1; rw [← hk, g6] at this; omega
        · exact hk
      have hx := (gQ.2.2.1 k hk (Nat.le_refl _)).2.2
      rw [g6, ← hcs] at hx
      obtain ⟨e1, ⟨f, n, q, e2, e3, e4, e5, e6⟩, _⟩ := gC c hc1 hc2
      exact ⟨e1, ⟨f, n, q, by omega, e3, e4, (gf f e2).trans e5, e6⟩, fun h0 => absurd (h0.symm.trans hx) (by decide)⟩
    · exact cs_C_go (gC c hc1 hc2) hF gf (S1 c hcs) (c1 c (by omega)) (c2 c (by omega)) (c3 c (by omega)) (c4 c (by omega))
  · rw [c3 c (by omega), c4 c (by omega)]; exact gZ c hc1 hc2
  · exact cf_FR_go ht gF hK hF (Nat.le_refl _) hV hD (fun j hj => kK s j (Or.inr hj)) (fun j hj => kT s j (Or.inr hj)) (fun i h3 h4 => aN i (by omega)) (fun i h3 h4 => aX i (by omega)) (fun i h3 h4 => aS i (by omega)) (fun i h3 h4 => aT i (by omega)) (fun i h3 h4 => aL i (by omega)) (fun i h3 h4 => bl i (by omega)) (fun i h3 h4 => ba i (by omega)) (fun i h3 h4 => be i (by omega)) (fun i h3 h4 => bk i (by omega))
/-- the same without new variables and functions; what isn't given is found -/
theorem cc_fr (ht : (ct_all op a b fi nx pa N oc pc E lv kd SC)) (h1 : (cc_C N oc pc E lv kd a b SC F C V D K T fN fX fS fT fL yl ya ye yk P H dep xh xc yt yc fn fe gn ge vn vo vv wn wu wv xst xf xr yst yf yr Q k s h)) (hK : K s h ≤ 6) (hh : h ≤ 128)
    (kK : ∀ r j, (r ≠ s ∨ j ≤ h) → K' r j = K r j) (kT : ∀ r j, (r ≠ s ∨ j ≤ h) → T' r j = T r j)
    (aN : ca_ (s * 128 + h) (s * 128 + 128) fN fN') (aX : ca_ (s * 128 + h) (s * 128 + 128) fX fX') (aS : ca_ (s * 128 + h) (s * 128 + 128) fS fS') (aT : ca_ (s * 128 + h) (s * 128 + 128) fT fT') (aL : ca_ ((s * 128 + h) * 4) ((s * 128 + 128) * 4) fL fL')
    (bl : ca_ (112 * s + (h + K s h - cz_ s)) (112 * s + 112) yl yl') (ba : ca_ (112 * s + (h + K s h - cz_ s)) (112 * s + 112) ya ya') (be : ca_ (112 * s + (h + K s h - cz_ s)) (112 * s + 112) ye ye') (bk : ca_ (3 * (112 * s + (h + K s h - cz_ s))) (3 * (112 * s + 112)) yk yk')
    (cP : ca_ s (s + 1) P P') (c1 : ca_ s (s + 1) xh xh') (c2 : ca_ s (s + 1) xc xc') (c3 : ca_ s (s + 1) yt yt') (c4 : ca_ s (s + 1) yc yc') :
    (cc_C N oc pc E lv kd a b SC F C V D K' T' fN' fX' fS' fT' fL' yl' ya' ye' yk' P' H dep xh' xc' yt' yc' fn fe gn ge vn vo vv wn wu wv xst xf xr yst yf yr Q k s h) := by
  have g := h1
  obtain ⟨⟨g1, g2, g3, g4, g5, g6⟩, gK, gV, gF, _⟩ := g
  exact cc_go ht h1 hK hh (Nat.le_refl _) g1 (Nat.le_refl _) g3 (fun _ _ _ h => h) gV gF (fun _ _ => rfl) kK kT aN aX aS aT aL bl ba be bk cP ca_r c1 c2 c3 c4
end
