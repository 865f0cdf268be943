section
variable {op a b fi nx pa : Nat → Int32} {N : Nat} {oc pc E lv : Nat → Nat} {kd : Nat → Nat → Nat} {SC : Nat → Int32 → Prop}
variable {F C V : Nat} {D : Nat → Int32 → Prop} {K T : Nat → Nat → Nat} {fN fX fS fT : Nat → Int32} {fL : Nat → Int64} {yl ya ye : Nat → Int32} {yk : Nat → Int64} {P H : Nat → Nat} {dep : Nat} {xh xc yt yc fn fe gn ge vn vo : Nat → Int32} {vv : Nat → Int64} {wn wu : Nat → Int32} {wv : Nat → Int64} {xst xf xr yst yf yr : Nat → Int32} {Q : Nat → Nat} {k s h : Nat}
variable {F' C' V' : Nat} {D' : Nat → Int32 → Prop} {K' T' : Nat → Nat → Nat} {fN' fX' fS' fT' : Nat → Int32} {fL' : Nat → Int64} {yl' ya' ye' : Nat → Int32} {yk' : Nat → Int64}
/-- g is f but between lo and hi -/
def ca_ {α : Type} (lo hi : Nat) (f g : Nat → α) : Prop := ∀ i, (i < lo ∨ hi ≤ i) → g i = f i
theorem ca_r {α : Type} {lo hi : Nat} {f : Nat → α} : ca_ lo hi f f := fun _ _ => rfl
theorem ca_u {lo hi k : Nat} {f g : Nat → Int32} {v : Int32} (h : ca_ lo hi f g) (h1 : lo ≤ k) (h2 : k < hi) : ca_ lo hi f (upd g k v) := fun i hi => (pk_un (by omega)).trans (h i hi)
theorem ca_l {lo hi k : Nat} {f g : Nat → Int64} {v : Int64} (h : ca_ lo hi f g) (h1 : lo ≤ k) (h2 : k < hi) : ca_ lo hi f (vp_updL g k v) := fun i hi => (pk_uLn (by omega)).trans (h i hi)
theorem ca_p {α : Type} {s : Nat} {f : Nat → α} {v : α} : ca_ s (s + 1) f (fun r => if r = s then v else f r) := fun i hi => if_neg (by omega)
theorem ca_w {α : Type} {lo hi lo' hi' : Nat} {f g : Nat → α} (h : ca_ lo hi f g) (h1 : lo' ≤ lo) (h2 : hi ≤ hi') : ca_ lo' hi' f g := fun i hi => h i (by omega)
theorem ca_t {α : Type} {lo hi : Nat} {f g e : Nat → α} (h : ca_ lo hi f g) (h2 : ca_ lo hi g e) : ca_ lo hi f e := fun i hi => (h2 i hi).trans (h i hi)
theorem cf_S_go {o i : Nat} {sl kp sl' kp' : Nat → Int64} (h : cf_S F C o i sl kp) (hF : F ≤ F') (hC : C ≤ C') (h1 : ∀ q, q < 3 → sl' q = sl q) (h2 : ∀ q, q < 3 → kp' q = kp q) : cf_S F' C' o i sl' kp' := by
  refine ⟨fun ho hi => (h1 0 (by omega)).trans (h.1 ho hi), fun ho q hq h3 => ?_⟩
  rw [h1 q h3, h2 q h3]
  exact cv_mono hF hC (h.2 ho q hq h3)
theorem cf_FX_go {j : Nat} (h : (cf_FX N oc pc E lv kd a b SC F C V D K T fN fX fS fT fL yl ya ye yk s j)) (hF : F ≤ F') (hC : C ≤ C') (hV : V ≤ V') (hD : ∀ e, e ≤ V → ∀ c, D e c → D' e c) (hK0 : K' s j = K s j) (hK1 : K' s (j + 1) = K s (j + 1)) (hT0 : T' s j = T s j) (hT1 : T' s (j + 1) = T s (j + 1))
    (aN : fN' (s * 128 + j) = fN (s * 128 + j)) (aX : fX' (s * 128 + j) = fX (s * 128 + j)) (aS : fS' (s * 128 + j) = fS (s * 128 + j)) (aT : fT' (s * 128 + j) = fT (s * 128 + j)) (aL : ∀ q, q < 3 → fL' ((s * 128 + j) * 4 + q) = fL ((s * 128 + j) * 4 + q))
    (bl : yl' (cy_ K s j) = yl (cy_ K s j)) (ba : ya' (cy_ K s j) = ya (cy_ K s j)) (be : ye' (cy_ K s j) = ye (cy_ K s j)) (bk : ∀ q, q < 3 → yk' (3 * cy_ K s j + q) = yk (3 * cy_ K s j + q)) :
    (cf_FX N oc pc E lv kd a b SC F' C' V' D' K' T' fN' fX' fS' fT' fL' yl' ya' ye' yk' s j) := by
  obtain ⟨n, i, e, ⟨⟨g1, g2, g3, g4⟩, ⟨g5, g6, g7⟩, ⟨g8, g9, g10⟩, g11, g12, g13⟩, hn, ht⟩ := h
  have hy : cy_ K' s j = cy_ K s j := by unfold cy_; rw [hK1]
  refine ⟨n, i, e, ⟨⟨g1, g2, g3, by omega⟩, ⟨?_, ?_, ?_⟩, ⟨?_, ?_, ?_⟩, fun c hc => hD e g4 c (g11 c hc), ?_, ?_⟩, ?_, ?_⟩
  · rw [aN]; exact g5
  · rw [aT]; exact g6
  · rw [aS]; exact g7
  · rw [hy, bl]; exact g8
  · rw [hy, ba]; exact g9
  · rw [hy, be]; exact g10
  · rw [hy]; exact cf_S_go g12 hF hC aL bk
  · rw [hK0, hK1]; exact g13
  · rw [aX]; exact hn
  · rw [hT0, hT1]; exact ht
theorem cf_K1 {j : Nat} (h : (cf_FX N oc pc E lv kd a b SC F C V D K T fN fX fS fT fL yl ya ye yk s j)) : K s j ≤ K s (j + 1) := by
  obtain ⟨n, i, e, ⟨_, _, _, _, _, g, _⟩, _⟩ := h
  omega
theorem cf_T1 {j : Nat} (h : (cf_FX N oc pc E lv kd a b SC F C V D K T fN fX fS fT fL yl ya ye yk s j)) : T s j + 3 ≤ T s (j + 1) := by
  obtain ⟨n, i, e, _, _, ht⟩ := h
  omega
theorem cf_Kle (h1 : (cf_FR N oc pc E lv kd a b SC F C V D K T fN fX fS fT fL yl ya ye yk s h)) : ∀ d j, j + d = h → K s j ≤ K s h := by
  intro d
  induction d with
  | zero => intro j hj; rw [show j = h by omega]; exact Nat.le_refl _
  | succ d ih =>
    intro j hj
    exact Nat.le_trans (cf_K1 (h1 j (by omega))) (ih (j + 1) (by omega))
theorem cf_Tle (h1 : (cf_FR N oc pc E lv kd a b SC F C V D K T fN fX fS fT fL yl ya ye yk s h)) : ∀ d j, j + d = h → T s j ≤ T s h := by
  intro d
  induction d with
  | zero => intro j hj; rw [show j = h by omega]; exact Nat.le_refl _
  | succ d ih =>
    intro j hj
    have := cf_T1 (h1 j (by omega))
    have := ih (j + 1) (by omega)
    omega
/-- where a waiting frame can lie -/
theorem cf_bd {j : Nat} (ht : (ct_all op a b fi nx pa N oc pc E lv kd SC)) (h : (cf_FX N oc pc E lv kd a b SC F C V D K T fN fX fS fT fL yl ya ye yk s j)) (hK : K s (j + 1) ≤ 6) : j + 1 + K s (j + 1) ≤ 112 + cz_ s ∧ j < 107 ∧ cz_ s ≤ K s (j + 1) := by
  obtain ⟨n, i, e, ⟨⟨g1, g2, _, _⟩, _, _, _, _, _, g3, g4⟩, _⟩ := h
  have hl := (ht.2.2.2.2 n g1).2.2.2.1.2 (by omega)
  have hz : cz_ s ≤ 1 := by unfold cz_; split <;> omega
  omega
theorem cf_FR_go (ht : (ct_all op a b fi nx pa N oc pc E lv kd SC)) (h1 : (cf_FR N oc pc E lv kd a b SC F C V D K T fN fX fS fT fL yl ya ye yk s h)) (hK : K s h ≤ 6) (hF : F ≤ F') (hC : C ≤ C') (hV : V ≤ V') (hD : ∀ e, e ≤ V → ∀ c, D e c → D' e c) (kK : ∀ j, j ≤ h → K' s j = K s j) (kT : ∀ j, j ≤ h → T' s j = T s j)
    (aN : ∀ i, s * 128 ≤ i → i < s * 128 + h → fN' i = fN i) (aX : ∀ i, s * 128 ≤ i → i < s * 128 + h → fX' i = fX i) (aS : ∀ i, s * 128 ≤ i → i < s * 128 + h → fS' i = fS i) (aT : ∀ i, s * 128 ≤ i → i < s * 128 + h → fT' i = fT i) (aL : ∀ i, s * 128 * 4 ≤ i → i < (s * 128 + h) * 4 → fL' i = fL i)
    (bl : ∀ i, 112 * s ≤ i → i < 112 * s + (h + K s h - cz_ s) → yl' i = yl i) (ba : ∀ i, 112 * s ≤ i → i < 112 * s + (h + K s h - cz_ s) → ya' i = ya i) (be : ∀ i, 112 * s ≤ i → i < 112 * s + (h + K s h - cz_ s) → ye' i = ye i) (bk : ∀ i, 3 * (112 * s) ≤ i → i < 3 * (112 * s + (h + K s h - cz_ s)) → yk' i = yk i) :
    (cf_FR N oc pc E lv kd a b SC F' C' V' D' K' T' fN' fX' fS' fT' fL' yl' ya' ye' yk' s h) := by
  intro j hj
  have k1 := cf_Kle h1 (h - (j + 1)) (j + 1) (by omega)
  obtain ⟨b1, b2, b3⟩ := cf_bd ht (h1 j hj) (by omega)
  have y1 : 112 * s ≤ cy_ K s j := by unfold cy_; omega
  have y2 : cy_ K s j < 112 * s + (h + K s h - cz_ s) := by unfold cy_; omega
  exact cf_FX_go (h1 j hj) hF hC hV hD (kK j (by omega)) (kK (j + 1) (by omega)) (kT j (by omega)) (kT (j + 1) (by omega)) (aN _ (by omega) (by omega)) (aX _ (by omega) (by omega)) (aS _ (by omega) (by omega)) (aT _ (by omega) (by omega)) (fun q hq => aL _ (by omega) (by omega)) (bl _ y1 y2) (ba _ y1 y2) (be _ y1 y2) (fun q hq => bk _ (by omega) (by omega))
end
