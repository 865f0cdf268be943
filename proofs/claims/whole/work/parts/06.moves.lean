section
variable {op a b fi nx pa : Nat → Int32} {N : Nat} {oc pc E lv : Nat → Nat} {kd : Nat → Nat → Nat} {SC : Nat → Int32 → Prop}
variable {F C V : Nat} {D : Nat → Int32 → Prop} {K T : Nat → Nat → Nat} {fN fX fS fT : Nat → Int32} {fL : Nat → Int64} {yl ya ye : Nat → Int32} {yk : Nat → Int64} {P H : Nat → Nat} {dep : Nat} {xh xc yt yc fn fe gn ge vn vo : Nat → Int32} {vv : Nat → Int64} {wn wu : Nat → Int32} {wv : Nat → Int64} {xst xf xr yst yf yr : Nat → Int32} {Q : Nat → Nat} {k s h : Nat}
variable {F' C' V' : Nat} {D' : Nat → Int32 → Prop} {K' T' : Nat → Nat → Nat} {fN' fX' fS' fT' : Nat → Int32} {fL' : Nat → Int64} {yl' ya' ye' : Nat → Int32} {yk' : Nat → Int64} {P' H' : Nat → Nat} {xh' xc' yt' yc' fn' fe' gn' ge' vn' vo' : Nat → Int32} {vv' : Nat → Int64} {wn' wu' : Nat → Int32} {wv' : Nat → Int64}
/-- the names of scope V + 1: a new variable before scope e -/
def cd_D (D : Nat → Int32 → Prop) (V e : Nat) (m : Int32) : Nat → Int32 → Prop := fun r c => if r = V + 1 then (m = c ∨ D e c) else D r c
theorem cd_D_old {e r : Nat} {m c : Int32} (hr : r ≤ V) : cd_D D V e m r c ↔ D r c := by
  unfold cd_D; rw [if_neg (by omega)]
theorem cd_D_new {e : Nat} {m c : Int32} : cd_D D V e m (V + 1) c ↔ (m = c ∨ D e c) := by
  unfold cd_D; rw [if_pos rfl]
theorem cd_D_up {e : Nat} {m : Int32} : ∀ r, r ≤ V → ∀ c, D r c → cd_D D V e m r c := fun _ hr _ h => (cd_D_old hr).mpr h
theorem cd_V_new {e : Nat} {m : Int32} {x y : Int64} (h : (cd_V F C V D vn vo vv wn wu wv)) (he : e ≤ V) (hv : cv_R F C x y) :
    (cd_V F C (V + 1) (cd_D D V e m) (upd vn (V + 1) m) (upd vo (V + 1) (nI e)) (vp_updL vv (V + 1) x) (upd wn V m) (upd wu V (nI e - 1)) (vp_updL wv V y)) := by
  refine ⟨fun c hc => h.1 c ((cd_D_old (Nat.zero_le _)).mp hc), fun v hv' => ?_⟩
  rcases Nat.lt_or_ge v V with hl | hl
  · obtain ⟨h1, h2, o, h3, h4, h5, h6⟩ := h.2 v hl
    rw [pk_un (by omega), pk_un (by omega), pk_uLn (by omega), pk_un (by omega), pk_un (by omega), pk_uLn (by omega)]
    refine ⟨h1, h2, o, h3, h4, h5, fun c hc => ?_⟩
    rw [cd_D_old (by omega)] at hc ⊢
    exact h6 c hc
  · obtain rfl : v = V := by omega
    rw [pk_us, pk_us, pk_uLs, pk_us, pk_us, pk_uLs]
    refine ⟨rfl, hv, e, he, rfl, rfl, fun c hc => ?_⟩
    rw [cd_D_old he]
    exact cd_D_new.mp hc
theorem cd_V_set {p : Nat} {x y : Int64} (h : (cd_V F C V D vn vo vv wn wu wv)) (hp : p < V) (hv : cv_R F C x y) : (cd_V F C V D vn vo (vp_updL vv (p + 1) x) wn wu (vp_updL wv p y)) := by
  refine ⟨h.1, fun v hv' => ?_⟩
  obtain ⟨h1, h2, h3⟩ := h.2 v hv'
  by_cases e : v = p
  · subst e
    rw [pk_uLs, pk_uLs]; exact ⟨h1, hv, h3⟩
  · rw [pk_uLn (by omega), pk_uLn (by omega)]; exact ⟨h1, h2, h3⟩
theorem cd_F_new {n e : Nat} (h : (cd_F N oc SC F C V D fn fe gn ge)) (hn : n < N) (ho : oc n = 10) (he : e ≤ V) (hc : ∀ c, SC n c → D e c) : (cd_F N oc SC (F + 1) C V D (upd fn F (nI n)) (upd fe F (nI e)) (upd gn F (nI n)) (upd ge F (nI e - 1))) := by
  intro f hf
  rcases Nat.lt_or_ge f F with hl | hl
  · rw [pk_un (by omega), pk_un (by omega), pk_un (by omega), pk_un (by omega)]; exact h f hl
  · obtain rfl : f = F := by omega
    rw [pk_us, pk_us, pk_us, pk_us]
    exact ⟨n, e, hn, ho, he, rfl, rfl, rfl, rfl, hc⟩
/-- sums over the strands -/
def sm_ (f : Nat → Nat) : Nat → Nat
  | 0 => 0
  | n + 1 => sm_ f n + f n
theorem sm_eq {f g : Nat → Nat} : ∀ n, (∀ i, i < n → f i = g i) → sm_ f n = sm_ g n := by
  intro n
  induction n with
  | zero => intro _; rfl
  | succ n ih => intro h; show sm_ f n + f n = sm_ g n + g n; rw [ih (fun i hi => h i (by omega)), h n (by omega)]
theorem sm_u {f : Nat → Nat} {s v : Nat} : ∀ n, s < n → sm_ (fun r => if r = s then v else f r) n + f s = sm_ f n + v := by
  intro n
  induction n with
  | zero => intro h; omega
  | succ n ih =>
    intro h
    show sm_ _ n + (if n = s then v else f n) + f s = sm_ f n + f n + v
    by_cases e : n = s
    · subst e
      rw [if_pos rfl, sm_eq (g := f) n (fun i hi => if_neg (by omega))]; omega
    · rw [if_neg e]; have := ih (by omega); omega
theorem sm_le {f : Nat → Nat} {s : Nat} : ∀ n, s < n → f s ≤ sm_ f n := by
  intro n
  induction n with
  | zero => intro h; omega
  | succ n ih =>
    intro h
    show f s ≤ sm_ f n + f n
    by_cases e : n = s
    · subst e; omega
    · have := ih (by omega); omega
theorem sm_0 : ∀ n, sm_ (fun _ => 0) n = 0 := by
  intro n
  induction n with
  | zero => rfl
  | succ n ih => show sm_ _ n + 0 = 0; rw [ih]
/-- a new coroutine -/
theorem cc_new {f n q : Nat} (ht : (ct_all op a b fi nx pa N oc pc E lv kd SC)) (h1 : (cc_C N oc pc E lv kd a b SC F C V D K T fN fX fS fT fL yl ya ye yk P H dep xh xc yt yc fn fe gn ge vn vo vv wn wu wv xst xf xr yst yf yr Q k s h)) (hC : C < 6) (hf : f < F) (hn : fn f = nI n) (hnN : n < N) (hq : b n = nI q) (hq1 : q ≤ 1) :
    (cc_C N oc pc E lv kd a b SC F (C + 1) V D K T fN fX fS fT fL yl ya ye yk P H dep (upd xh (C + 1) 0) (upd xc (C + 1) 0) yt yc fn fe gn ge vn vo vv wn wu wv (upd xst (C + 1) 0) (upd xf (C + 1) (nI f)) xr (upd yst (C + 1) 0) (upd yf (C + 1) (nI f)) yr Q k s h) := by
  have hs := cc_s h1
  obtain ⟨⟨g1, g2, g3, g4, g5, g6⟩, gK, gV, gF, gQ, gS, gC, gZ, gR⟩ := h1
  have M : ∀ r m, (cf_FR N oc pc E lv kd a b SC F C V D K T fN fX fS fT fL yl ya ye yk r m) → (cf_FR N oc pc E lv kd a b SC F (C + 1) V D K T fN fX fS fT fL yl ya ye yk r m) := fun r m h j hj => cf_FX_go (h j hj) (Nat.le_refl _) (Nat.le_succ _) (Nat.le_refl _) (fun _ _ _ h => h) rfl rfl rfl rfl rfl rfl rfl rfl (fun _ _ => rfl) rfl rfl rfl (fun _ _ => rfl)
  have S1 : ∀ r, r ≤ C → (cs_S N oc pc E lv kd a b SC F C V D K T fN fX fS fT fL yl ya ye yk P H dep xh xc yt yc r) → (cs_S N oc pc E lv kd a b SC F (C + 1) V D K T fN fX fS fT fL yl ya ye yk P H dep (upd xh (C + 1) 0) (upd xc (C + 1) 0) yt yc r) := by
    intro r hr h
    obtain ⟨h2, h3, h4, h5⟩ := h
    unfold cs_S
    rw [pk_un (by omega), pk_un (by omega)]
    exact ⟨M r (H r) h2, h3, h4, h5⟩
  have qC : ∀ i, i ≤ k → Q i ≤ C := by
    intro i hi
    rcases Nat.eq_zero_or_pos i with h0 | h0
    · rw [h0, gQ.1]; exact Nat.zero_le _
    · exact (gQ.2.2.1 i h0 hi).2.1
  refine ⟨⟨g1, by omega, g3, g4, g5, g6⟩, gK, cd_V_F gV (Nat.le_refl _) (Nat.le_succ _), gF, ⟨gQ.1, gQ.2.1, fun i h0 hi => ?_, gQ.2.2.2⟩, fun i hi => S1 _ (qC i (by omega)) (gS i hi), fun c h0 hc => ?_, fun c h0 hc => gZ c (by omega) hc, ?_⟩
  · obtain ⟨e1, e2, e3⟩ := gQ.2.2.1 i h0 hi
    refine ⟨e1, by omega, ?_⟩
    rw [pk_un (by omega)]; exact e3
  · rcases Nat.lt_or_ge c (C + 1) with hl | hl
    · obtain ⟨e1, e2, e3⟩ := gC c h0 (by omega)
      unfold cs_C
      rw [pk_un (by omega), pk_un (by omega), pk_un (by omega), pk_un (by omega), pk_un (by omega), pk_un (by omega)]
      refine ⟨e1, e2, fun hx => ?_⟩
      rcases e3 hx with g | g
      · exact Or.inl g
      · exact Or.inr (S1 c (by omega) g)
    · obtain rfl : c = C + 1 := by omega
      unfold cs_C
      rw [pk_us, pk_us, pk_us, pk_us, pk_us, pk_us]
      refine ⟨⟨0, by omega, rfl, rfl⟩, ⟨f, n, q, hf, rfl, rfl, hn, hnN, hq, hq1⟩, fun _ => Or.inl ⟨rfl, (gZ (C + 1) (by omega) (by omega)).1, rfl, (gZ (C + 1) (by omega) (by omega)).2⟩⟩
  · exact M s h gR
/-- H with the active strand's own height -/
def ch_ (H : Nat → Nat) (s h : Nat) : Nat → Nat := fun r => if r = s then h else H r
theorem ch_s {H : Nat → Nat} {s h : Nat} : ch_ H s h s = h := if_pos rfl
theorem ch_n {H : Nat → Nat} {s h r : Nat} (hr : r ≠ s) : ch_ H s h r = H r := if_neg hr
theorem cs_S_H {r : Nat} (h1 : (cs_S N oc pc E lv kd a b SC F C V D K T fN fX fS fT fL yl ya ye yk P H dep xh xc yt yc r)) (hr : r ≠ s) : (cs_S N oc pc E lv kd a b SC F C V D K T fN fX fS fT fL yl ya ye yk P (ch_ H s h) dep xh xc yt yc r) := by
  unfold cs_S; rw [ch_n hr]; exact h1
/-- the active strand, when it stands still above its frame h -/
theorem cs_S_mk {n : Nat} (h1 : (cc_C N oc pc E lv kd a b SC F C V D K T fN fX fS fT fL yl ya ye yk P H dep xh xc yt yc fn fe gn ge vn vo vv wn wu wv xst xf xr yst yf yr Q k s h)) (e1 : K s h ≤ dep) (e2 : cz_ s ≤ h) (e3 : T s h + 2 ≤ P s) (e4 : h + 1 + K s h ≤ 112 + cz_ s) (e4' : cz_ s ≤ K s h) (e5 : xh s = nI (h + 1)) (e6 : yt s = nI (h + 1 + K s h - cz_ s)) (e7 : xc s = nI (K s h)) (e8 : yc s = nI (K s h)) (e9 : n < N) (e10 : oc n ≠ 10) (e11 : yl (112 * s + (h + K s h - cz_ s)) = nI n) : (cs_S N oc pc E lv kd a b SC F C V D K T fN fX fS fT fL yl ya ye yk P (ch_ H s h) dep xh xc yt yc s) := by
  unfold cs_S; rw [ch_s]
  exact ⟨h1.2.2.2.2.2.2.2.2, ⟨e1, e2, e3, e4, e4'⟩, ⟨e5, e6, e7, e8⟩, n, e9, e10, e11⟩
/-- the active strand s resumes c -/
theorem cc_res {c m : Nat} (h1 : (cc_C N oc pc E lv kd a b SC F C V D K T fN fX fS fT fL yl ya ye yk P H dep xh xc yt yc fn fe gn ge vn vo vv wn wu wv xst xf xr yst yf yr Q k s h)) (hS : (cs_S N oc pc E lv kd a b SC F C V D K T fN fX fS fT fL yl ya ye yk P (ch_ H s h) dep xh xc yt yc s)) (hc1 : 1 ≤ c) (hc : c ≤ C) (h0 : xst c = 0) (hm : (cf_FR N oc pc E lv kd a b SC F C V D K T fN fX fS fT fL yl ya ye yk c m)) :
    (cc_C N oc pc E lv kd a b SC F C V D K T fN fX fS fT fL yl ya ye yk P (ch_ H s h) dep xh xc yt yc fn fe gn ge vn vo vv wn wu wv (upd xst c 1) xf (upd xr c (nI s)) (upd yst c 1) yf (upd yr c (nI s)) (fun i => if i = k + 1 then c else Q i) (k + 1) c m) := by
  have hs := cc_s h1
  obtain ⟨⟨g1, g2, g3, g4, g5, g6⟩, gK, gV, gF, gQ, gS, gC, gZ, gR⟩ := h1
  have nq : ∀ i, i ≤ k → Q i ≠ c := by
    intro i hi e
    rcases Nat.eq_zero_or_pos i with hz | hz
    · have := gQ.1; rw [← hz, e] at this; omega
    · have := (gQ.2.2.1 i hz hi).2.2
      rw [e, h0] at this
      exact absurd this (by decide)
  have hcs : c ≠ s := fun e => nq k (Nat.le_refl _) (by rw [g6, e])
  refine ⟨⟨g1, g2, g3, g4, g5, if_pos rfl⟩, gK, gV, gF, ⟨?_, fun i j hi hj e => ?_, fun i hi1 hi => ?_, fun i hi => ?_⟩, fun i hi => ?_, fun d hd1 hd => ?_, gZ, hm⟩
  · dsimp only; rw [if_neg (by omega)]; exact gQ.1
  · dsimp only at e
    by_cases h3 : i = k + 1
    · by_cases h4 : j = k + 1
      · omega
      · rw [if_pos h3, if_neg h4] at e
        exact absurd e.symm (nq j (by omega))
    · by_cases h4 : j = k + 1
      · rw [if_neg h3, if_pos h4] at e
        exact absurd e (nq i (by omega))
      · rw [if_neg h3, if_neg h4] at e
        exact gQ.2.1 i j (by omega) (by omega) e
  · dsimp only
    by_cases h3 : i = k + 1
    · rw [if_pos h3, pk_us]; exact ⟨hc1, hc, rfl⟩
    · rw [if_neg h3, pk_un (nq i (by omega))]
      exact gQ.2.2.1 i hi1 (by omega)
  · dsimp only
    rw [if_neg (show ¬ i = k + 1 by omega)]
    by_cases h3 : i = k
    · rw [if_pos (show i + 1 = k + 1 by omega), pk_us, pk_us, h3, g6]
      exact ⟨rfl, rfl⟩
    · rw [if_neg (show ¬ i + 1 = k + 1 by omega), pk_un (nq (i + 1) (by omega)), pk_un (nq (i + 1) (by omega))]
      exact gQ.2.2.2 i (by omega)
  · dsimp only
    rw [if_neg (show ¬ i = k + 1 by omega)]
    by_cases h3 : i = k
    · rw [h3, g6]; exact hS
    · refine cs_S_H (gS i (by omega)) (fun e => ?_)
      have := gQ.2.1 i k (by omega) (Nat.le_refl _) (e.trans g6.symm)
      omega
  · obtain ⟨e1, e2, e3⟩ := gC d hd1 hd
    unfold cs_C
    by_cases h3 : d = c
    · subst h3
      rw [pk_us, pk_us]
      exact ⟨⟨1, by omega, rfl, rfl⟩, e2, fun hx => absurd hx (by decide)⟩
    · rw [pk_un h3, pk_un h3]
      refine ⟨e1, e2, fun hx => ?_⟩
      rcases e3 hx with g | g
      · exact Or.inl g
      · by_cases h4 : d = s
        · rw [h4]; exact Or.inr hS
        · exact Or.inr (cs_S_H g h4)
/-- the active strand s gives the turn back to the one that resumed it -/
theorem cc_lv {m w : Nat} (h1 : (cc_C N oc pc E lv kd a b SC F C V D K T fN fX fS fT fL yl ya ye yk P H dep xh xc yt yc fn fe gn ge vn vo vv wn wu wv xst xf xr yst yf yr Q k s h)) (hk : k = m + 1) (hw : w ≤ 2) (hw1 : w ≠ 1) (hS : w = 0 → (cs_S N oc pc E lv kd a b SC F C V D K T fN fX fS fT fL yl ya ye yk P (ch_ H s h) dep xh xc yt yc s)) :
    (cc_C N oc pc E lv kd a b SC F C V D K T fN fX fS fT fL yl ya ye yk P (ch_ H s h) dep xh xc yt yc fn fe gn ge vn vo vv wn wu wv (upd xst s (nI w)) xf xr (upd yst s (nI w)) yf yr Q m (Q m) (H (Q m))) ∧ 1 ≤ s ∧ Q m ≠ s ∧ Q m < 7 ∧ xr s = nI (Q m) ∧ yr s = nI (Q m) ∧ (cs_S N oc pc E lv kd a b SC F C V D K T fN fX fS fT fL yl ya ye yk P H dep xh xc yt yc (Q m)) := by
  have hs := cc_s h1
  obtain ⟨⟨g1, g2, g3, g4, g5, g6⟩, gK, gV, gF, gQ, gS, gC, gZ, gR⟩ := h1
  have hq : ∀ i, i ≤ m → Q i ≠ s := by
    intro i hi e
    have := gQ.2.1 i k (by omega) (Nat.le_refl _) (e.trans g6.symm)
    omega
  have h1s : 1 ≤ s := by
    have := (gQ.2.2.1 k (by omega) (Nat.le_refl _)).1
    rw [g6] at this; exact this
  have hr := gQ.2.2.2 m (by omega)
  rw [← hk, g6] at hr
  have h7 : Q m < 7 := by
    rcases Nat.eq_zero_or_pos m with hz | hz
    · rw [hz, gQ.1]; omega
    · have := (gQ.2.2.1 m hz (by omega)).2.1; omega
  refine ⟨⟨⟨g1, g2, g3, g4, g5, rfl⟩, gK, gV, gF, ⟨gQ.1, fun i j hi hj e => gQ.2.1 i j (by omega) (by omega) e, fun i hi1 hi => ?_, fun i hi => gQ.2.2.2 i (by omega)⟩, fun i hi => cs_S_H (gS i (by omega)) (hq i (by omega)), fun d hd1 hd => ?_, gZ, (gS m (by omega)).1⟩, h1s, hq m (Nat.le_refl _), h7, hr.1, hr.2, gS m (by omega)⟩
  · rw [pk_un (hq i hi)]; exact gQ.2.2.1 i hi1 (by omega)
  · obtain ⟨e1, e2, e3⟩ := gC d hd1 hd
    unfold cs_C
    by_cases h3 : d = s
    · subst h3
      rw [pk_us, pk_us]
      refine ⟨⟨w, hw, rfl, rfl⟩, e2, fun hx => ?_⟩
      refine Or.inr (hS ?_)
      have hx' : nI w = nI 0 := hx
      exact (nI_eq (by omega) (by omega)).mp hx'
    · rw [pk_un h3, pk_un h3]
      refine ⟨e1, e2, fun hx => ?_⟩
      rcases e3 hx with g | g
      · exact Or.inl g
      · exact Or.inr (cs_S_H g h3)
end
