section
variable {op a b fi nx pa : Nat → Int32} {N : Nat} {oc pc E lv : Nat → Nat} {kd : Nat → Nat → Nat} {SC : Nat → Int32 → Prop}
variable {L : Nat} {st : Nat → Nat} {xp xl xo yp : Nat → Int32}
def nu_ {α : Type} (f : Nat → α) (k : Nat) (v : α) : Nat → α := fun j => if j = k then v else f j
theorem nu_s {α : Type} {f : Nat → α} {k : Nat} {v : α} : nu_ f k v k = v := if_pos rfl
theorem nu_n {α : Type} {f : Nat → α} {k j : Nat} {v : α} (h : j ≠ k) : nu_ f k v j = f j := if_neg h
theorem up_comm {f : Nat → Int32} {i j : Nat} {x y : Int32} (h : i ≠ j) : upd (upd f i x) j y = upd (upd f j y) i x := by
  funext q
  unfold upd
  by_cases h1 : q = j
  · rw [if_pos h1, if_neg (by omega), if_pos h1]
  · rw [if_neg h1]
    by_cases h2 : q = i
    · rw [if_pos h2, if_pos h2]
    · rw [if_neg h2, if_neg h2, if_neg h1]
/-- list n, of whose parts q have ended, makes variable c -/
def cb_mk (oc : Nat → Nat) (a b : Nat → Int32) (n q : Nat) (c : Int32) : Prop := (oc n = 8 ∧ 0 < q ∧ a n = c) ∨ (oc n = 10 ∧ a n ≤ c ∧ c < a n + b n)
def cb_q (L : Nat) (st pc : Nat → Nat) (i : Nat) : Nat := if i + 1 < L then pc (st i) - 1 else pc (st i)
/-- c is in scope -/
def cb_sc (L : Nat) (st oc pc : Nat → Nat) (a b : Nat → Int32) (c : Int32) : Prop := ∃ i, i < L ∧ cb_mk oc a b (st i) (cb_q L st pc i) c
def cb_G (L : Nat) (st : Nat → Nat) (N : Nat) (oc pc E lv : Nat → Nat) (kd : Nat → Nat → Nat) (SC : Nat → Int32 → Prop) (op a b fi nx xp xl xo pa yp : Nat → Int32) : Prop :=
  (N ≤ 96 ∧ L ≤ 16 ∧ (0 < L → st 0 = 0) ∧ (0 < N → lv 0 = 1 ∧ ∀ c, ¬ SC 0 c))
  ∧ (∀ i, i < L → st i < N ∧ xo i = nI (st i) ∧ pa (st i) = (if i = 0 then -1 else nI (st (i - 1))) ∧ oc (st i) < 20 ∧ lv (st i) = i + 1 ∧ (∀ j, j < i → st j < st i)
      ∧ (i + 1 < L → 0 < pc (st i) ∧ kd (st i) (pc (st i) - 1) = st (i + 1) ∧ xp (st i) = nI (pc (st i) - 1)) ∧ (∀ c, SC (st i) c ↔ ∃ j, j < i ∧ cb_mk oc a b (st j) (pc (st j) - 1) c))
  ∧ (∀ n, n < N → (ct_nd op a b fi nx pa N oc pc E lv kd SC (fun m => ∀ i, i < L → st i ≠ m) n))
  ∧ (∀ n, n < N → yp n = nI (pc n) ∧ ((∀ i, i + 1 < L → st i ≠ n) → xp n = nI (pc n)) ∧ (0 < pc n → xl n = nI (kd n (pc n - 1))))
  ∧ (∀ i, i + 1 = L → 0 < pc (st i) → ∀ j, j < L → st j ≠ kd (st i) (pc (st i) - 1))
theorem cb_in {l : Nat} (hG : (cb_G L st N oc pc E lv kd SC op a b fi nx xp xl xo pa yp)) (hl : l + 1 = L) (c : Int32) : cb_sc L st oc pc a b c ↔ ct_in oc a b SC (st l) (pc (st l)) c := by
  have hs := ((hG.2.1 l (by omega)).2.2.2.2.2.2.2 c)
  constructor
  · intro h
    obtain ⟨i, hi, hm⟩ := h
    by_cases e : i = l
    · subst e
      unfold cb_q at hm; rw [if_neg (by omega)] at hm
      exact Or.inr hm
    · unfold cb_q at hm; rw [if_pos (by omega)] at hm
      exact Or.inl (hs.mpr ⟨i, by omega, hm⟩)
  · intro h
    rcases h with h | h
    · obtain ⟨j, hj, hm⟩ := hs.mp h
      exact ⟨j, by omega, by unfold cb_q; rw [if_pos (by omega)]; exact hm⟩
    · exact ⟨l, by omega, by unfold cb_q; rw [if_neg (by omega)]; exact h⟩
/-- the kids of a list rise -/
theorem ct_rise {n : Nat} {cl : Nat → Prop} (hA : ∀ m, m < N → (ct_nd op a b fi nx pa N oc pc E lv kd SC cl m)) (hn : n < N) : ∀ d i, i + d + 1 < pc n → kd n i < kd n (i + d + 1) := by
  have h := hA n hn
  have st1 : ∀ i, i + 1 < pc n → kd n i < kd n (i + 1) := by
    intro i hi
    obtain ⟨_, e2, _, _, e5, _⟩ := h.2.2.2.2.2.1 i (by omega)
    obtain ⟨_, f1, f2⟩ := e5 hi
    have := ((hA _ e2).2.2.2.2.2.2 f2).2.1
    omega
  intro d
  induction d with
  | zero => intro i hi; exact st1 i hi
  | succ d ih =>
    intro i hi
    have h1 := ih i (by omega)
    have h2 := st1 (i + d + 1) (by omega)
    rw [show i + (d + 1) + 1 = i + d + 1 + 1 by omega]
    omega
/-- a node is added below list l -/
theorem ct_add {l o : Nat} {av bv : Int32} {S : Int32 → Prop} {cl cl' : Nat → Prop} {fi' nx' : Nat → Int32} {w : Nat} (hN : N < 96) (hA : ∀ n, n < N → (ct_nd op a b fi nx pa N oc pc E lv kd SC cl n)) (hl : l < N) (hcl : ∀ m, m < N → (cl' m ↔ cl m)) (hlo : ¬ cl l) (hk : ∀ i, i < pc l → cl (kd l i)) (hp : pc l < ct_mx (oc l)) (ho : o ≤ 21)
    (h10 : o = 10 → ∃ p q, av = nI p ∧ bv = nI q ∧ q ≤ 3 ∧ p + q ≤ 8) (hS : (o = 21 ∨ o = 9) → S av) (hlv : o < 20 → lv l + 1 ≤ 16) (hS2 : ∀ c, S c → ct_in oc a b SC l (pc l) c) (hcN : cl' N → ct_mn o = 0 ∧ w = N + 1)
    (hf : fi' = upd (if pc l = 0 then upd fi l (nI N) else fi) N (-1)) (hx : nx' = upd (if pc l = 0 then nx else upd nx (kd l (pc l - 1)) (nI N)) N (-1)) :
    ∀ n, n < N + 1 → (ct_nd (upd op N (nI o)) (upd a N av) (upd b N bv) fi' nx' (upd pa N (nI l)) (N + 1) (nu_ oc N o) (nu_ (nu_ pc N 0) l (pc l + 1)) (nu_ E N w) (nu_ lv N (lv l + 1)) (nu_ kd l (nu_ (kd l) (pc l) N)) (nu_ SC N S) cl' n) := by
  intro n hn
  have kn : ∀ n i, n < N → i < pc n → kd n i < N := fun n i hn hi => ((hA n hn).2.2.2.2.2.1 i hi).2.1
  have inn : ∀ n i c, n < N → ct_in oc a b SC n i c → ct_in (nu_ oc N o) (upd a N av) (upd b N bv) (nu_ SC N S) n i c := by
    intro n i c hn h
    unfold ct_in
    rw [nu_n (by omega), nu_n (by omega), pk_un (by omega), pk_un (by omega)]
    exact h
  have nxo : ∀ m, m < N → (0 < pc l → m ≠ kd l (pc l - 1)) → nx' m = nx m := by
    intro m hm h
    rw [hx, pk_un (by omega)]
    split
    · rfl
    · exact pk_un (h (by omega))
  rcases Nat.lt_or_ge n N with hnN | hnN
  · obtain ⟨⟨g1, g2, g3, g4⟩, g5, g6, ⟨g7, g8⟩, ⟨g9, g10⟩, g11, g12⟩ := hA n hnN
    by_cases hnl : n = l
    · subst hnl
      unfold ct_nd
      rw [nu_n (show n ≠ N by omega), nu_n (show n ≠ N by omega), nu_n (show n ≠ N by omega), nu_n (show n ≠ N by omega), pk_un (show n ≠ N by omega), pk_un (show n ≠ N by omega), pk_un (show n ≠ N by omega), nu_s, nu_s]
      refine ⟨⟨g1, g2, by omega, by omega⟩, g5, g6, ⟨g7, g8⟩, ⟨fun h => by omega, fun _ => ?_⟩, fun i hi => ?_, fun h => absurd ((hcl n hnN).mp h) hlo⟩
      · rw [hf, pk_un (by omega)]
        by_cases h0 : pc n = 0
        · rw [if_pos h0, pk_us, h0, nu_s]
        · rw [if_neg h0, nu_n (by omega)]; exact g10 (by omega)
      · rcases Nat.lt_or_ge i (pc n) with hi2 | hi2
        · obtain ⟨e1, e2, e3, e4, e5, e6, e7⟩ := g11 i hi2
          rw [nu_n (show i ≠ pc n by omega), nu_n (show kd n i ≠ N by omega), nu_n (show kd n i ≠ N by omega), nu_n (show kd n i ≠ N by omega), pk_un (show kd n i ≠ N by omega)]
          refine ⟨e1, by omega, e3, e4, fun _ => ?_, fun h => by omega, fun c hc => inn n i c hnN (e7 c hc)⟩
          have hc := hk i hi2
          rcases Nat.lt_or_ge (i + 1) (pc n) with h3 | h3
          · rw [nu_n (show i + 1 ≠ pc n by omega)]
            obtain ⟨f1, f2, f3⟩ := e5 h3
            refine ⟨?_, f2, (hcl _ e2).mpr f3⟩
            rw [nxo _ e2 (fun _ => ?_)]
            · exact f1
            · have := ct_rise hA hnN (pc n - 1 - i - 1) i (by omega)
              rw [show i + (pc n - 1 - i - 1) + 1 = pc n - 1 by omega] at this
              omega
          · rw [show i + 1 = pc n by omega, nu_s]
            refine ⟨?_, ((hA _ e2).2.2.2.2.2.2 hc).2.2.1, (hcl _ e2).mpr hc⟩
            rw [hx, pk_un (by omega), if_neg (by omega), show pc n - 1 = i by omega, pk_us]
        · rw [show i = pc n by omega, nu_s, nu_s, nu_s, pk_us]
          refine ⟨by omega, by omega, rfl, rfl, fun h => by omega, fun _ => ?_, fun c hc => inn n _ c hnN (hS2 c (by rw [nu_s] at hc; exact hc))⟩
          rw [hx, pk_us]
    · unfold ct_nd
      rw [nu_n (show n ≠ N by omega), nu_n (show n ≠ N by omega), nu_n (show n ≠ N by omega), nu_n (show n ≠ N by omega), pk_un (show n ≠ N by omega), pk_un (show n ≠ N by omega), pk_un (show n ≠ N by omega), nu_n hnl, nu_n hnl, nu_n (show n ≠ N by omega)]
      have hfi : fi' n = fi n := by
        rw [hf, pk_un (by omega)]
        split
        · exact pk_un hnl
        · rfl
      rw [hfi]
      refine ⟨⟨g1, g2, g3, by omega⟩, g5, g6, ⟨g7, g8⟩, ⟨g9, g10⟩, fun i hi => ?_, fun h => ?_⟩
      · obtain ⟨e1, e2, e3, e4, e5, e6, e7⟩ := g11 i hi
        rw [nu_n (show kd n i ≠ N by omega), nu_n (show kd n i ≠ N by omega), nu_n (show kd n i ≠ N by omega), pk_un (show kd n i ≠ N by omega)]
        have hne : 0 < pc l → kd n i ≠ kd l (pc l - 1) := by
          intro h0 he
          have := ((hA l hl).2.2.2.2.2.1 (pc l - 1) (by omega)).2.2.1
          rw [← he, e3, nI_eq (by omega) (by omega)] at this
          exact hnl this
        rw [nxo _ e2 hne]
        exact ⟨e1, by omega, e3, e4, fun h => ⟨(e5 h).1, (e5 h).2.1, (hcl _ e2).mpr (e5 h).2.2⟩, e6, fun c hc => inn n i c hnN (e7 c hc)⟩
      · obtain ⟨f1, f2, f3, f4⟩ := g12 ((hcl n hnN).mp h)
        refine ⟨f1, f2, by omega, fun i hi => ?_⟩
        have e2 := kn n i hnN hi
        rw [nu_n (show kd n i ≠ N by omega)]
        exact ⟨(hcl _ e2).mpr (f4 i hi).1, (f4 i hi).2⟩
  · obtain rfl : n = N := by omega
    unfold ct_nd
    rw [nu_s, nu_s, nu_s, nu_s, pk_us, pk_us, pk_us, nu_n (show n ≠ l by omega), nu_n (show n ≠ l by omega), nu_s, hf, pk_us]
    refine ⟨⟨ho, rfl, by omega, by omega⟩, h10, hS, ⟨by omega, hlv⟩, ⟨fun _ => rfl, fun h => by omega⟩, fun i hi => by omega, fun h => ?_⟩
    obtain ⟨f1, f2⟩ := hcN h
    exact ⟨by omega, by omega, by omega, fun i hi => by omega⟩
end
