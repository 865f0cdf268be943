section
variable {op a b fi nx pa : Nat → Int32} {N : Nat} {oc pc E lv : Nat → Nat} {kd : Nat → Nat → Nat} {SC : Nat → Int32 → Prop}
variable {L : Nat} {st : Nat → Nat} {xp xl xo yp : Nat → Int32}
theorem ct_root {o : Nat} {av bv : Int32} {cl' : Nat → Prop} {w : Nat} (ho : o ≤ 21) (h10 : o = 10 → ∃ p q, av = nI p ∧ bv = nI q ∧ q ≤ 3 ∧ p + q ≤ 8) (hS : o ≠ 21 ∧ o ≠ 9) (hcN : cl' 0 → ct_mn o = 0 ∧ w = 1) :
    ∀ n, n < 1 → (ct_nd (upd op 0 (nI o)) (upd a 0 av) (upd b 0 bv) (upd fi 0 (-1)) (upd nx 0 (-1)) (upd pa 0 (-1)) 1 (nu_ oc 0 o) (nu_ pc 0 0) (nu_ E 0 w) (nu_ lv 0 1) kd (nu_ SC 0 (fun _ => False)) cl' n) := by
  intro n hn
  obtain rfl : n = 0 := by omega
  unfold ct_nd
  rw [nu_s, nu_s, nu_s, nu_s, pk_us, pk_us, pk_us, nu_s, pk_us]
  refine ⟨⟨ho, rfl, by omega, by omega⟩, h10, fun h => by omega, ⟨by omega, fun _ => by omega⟩, ⟨fun _ => rfl, fun h => by omega⟩, fun i hi => by omega, fun h => ?_⟩
  obtain ⟨f1, f2⟩ := hcN h
  exact ⟨by omega, by omega, by omega, fun i hi => by omega⟩
theorem cb_inj {i j : Nat} (hG : (cb_G L st N oc pc E lv kd SC op a b fi nx xp xl xo pa yp)) (hi : i < L) (hj : j < L) (e : st i = st j) : i = j := by
  rcases Nat.lt_trichotomy i j with h | h | h
  · have := (hG.2.1 j hj).2.2.2.2.2.1 i h; omega
  · exact h
  · have := (hG.2.1 i hi).2.2.2.2.2.1 j h; omega
theorem cb_L {N : Nat} (hG : (cb_G L st N oc pc E lv kd SC op a b fi nx xp xl xo pa yp)) (hN : N = 0) : L = 0 := by
  rcases Nat.eq_zero_or_pos L with h | h
  · exact h
  · have := (hG.2.1 0 h).1; omega
/-- all kids of the innermost open list are closed -/
theorem cb_kc {l : Nat} (hG : (cb_G L st N oc pc E lv kd SC op a b fi nx xp xl xo pa yp)) (hl : l + 1 = L) : ∀ i, i < pc (st l) → ∀ j, j < L → st j ≠ kd (st l) i := by
  intro i hi
  have h := hG.2.2.1 (st l) (hG.2.1 l (by omega)).1
  rcases Nat.lt_or_ge (i + 1) (pc (st l)) with h1 | h1
  · exact ((h.2.2.2.2.2.1 i hi).2.2.2.2.1 h1).2.2
  · have := hG.2.2.2.2 l hl (by omega)
    rw [show pc (st l) - 1 = i by omega] at this
    exact this
theorem cb_leaf0 {o : Nat} {av bv : Int32} (hG : (cb_G L st 0 oc pc E lv kd SC op a b fi nx xp xl xo pa yp)) (ho : o = 20) :
    (cb_G L st 1 (nu_ oc 0 o) (nu_ pc 0 0) (nu_ E 0 1) (nu_ lv 0 1) kd (nu_ SC 0 (fun _ => False)) (upd op 0 (nI o)) (upd a 0 av) (upd b 0 bv) (upd fi 0 (-1)) (upd nx 0 (-1)) (upd xp 0 0) xl xo (upd pa 0 (-1)) (upd yp 0 0)) := by
  have hL := cb_L hG rfl
  subst hL
  refine ⟨⟨by omega, by omega, fun h => by omega, fun _ => ⟨nu_s, fun c hc => ?_⟩⟩, fun i hi => by omega, ct_root (by omega) (fun h => by omega) (by omega) (fun _ => ⟨by rw [ho]; rfl, rfl⟩), fun n hn => ?_, fun i hi => by omega⟩
  · rw [nu_s] at hc; exact hc
  · obtain rfl : n = 0 := by omega
    rw [pk_us, nu_s, pk_us]
    exact ⟨rfl, fun _ => rfl, fun h => by omega⟩
theorem cb_open0 {o : Nat} {av bv : Int32} (hG : (cb_G L st 0 oc pc E lv kd SC op a b fi nx xp xl xo pa yp)) (ho : o < 20) (h9 : o ≠ 9) (h10 : o = 10 → ∃ p q, av = nI p ∧ bv = nI q ∧ q ≤ 3 ∧ p + q ≤ 8) :
    (cb_G 1 (nu_ st 0 0) 1 (nu_ oc 0 o) (nu_ pc 0 0) (nu_ E 0 1) (nu_ lv 0 1) kd (nu_ SC 0 (fun _ => False)) (upd op 0 (nI o)) (upd a 0 av) (upd b 0 bv) (upd fi 0 (-1)) (upd nx 0 (-1)) (upd xp 0 0) xl (upd xo 0 0) (upd pa 0 (-1)) (upd yp 0 0)) := by
  have hL := cb_L hG rfl
  subst hL
  refine ⟨⟨by omega, by omega, fun _ => nu_s, fun _ => ⟨nu_s, fun c hc => ?_⟩⟩, fun i hi => ?_, ct_root (by omega) h10 (by omega) (fun h => absurd nu_s (h 0 (by omega))), fun n hn => ?_, fun i hi h0 => ?_⟩
  · rw [nu_s] at hc; exact hc
  · obtain rfl : i = 0 := by omega
    rw [nu_s, pk_us, pk_us, nu_s, nu_s, nu_s]
    refine ⟨by omega, rfl, rfl, by omega, rfl, fun j hj => by omega, fun h => by omega, fun c => ⟨fun h => absurd h id, fun h => ?_⟩⟩
    obtain ⟨j, hj, _⟩ := h
    omega
  · obtain rfl : n = 0 := by omega
    rw [pk_us, nu_s, pk_us]
    exact ⟨rfl, fun _ => rfl, fun h => by omega⟩
  · obtain rfl : i = 0 := by omega
    rw [nu_s, nu_s] at h0
    omega
theorem cb_leaf {l o : Nat} {av bv : Int32} {fi' nx' : Nat → Int32} (hG : (cb_G L st N oc pc E lv kd SC op a b fi nx xp xl xo pa yp)) (hl : l + 1 = L) (hN : N < 96) (hp : pc (st l) < ct_mx (oc (st l))) (ho : o = 20 ∨ o = 21) (hS : o = 21 → cb_sc L st oc pc a b av)
    (hf : fi' = upd (if pc (st l) = 0 then upd fi (st l) (nI N) else fi) N (-1)) (hx : nx' = upd (if pc (st l) = 0 then nx else upd nx (kd (st l) (pc (st l) - 1)) (nI N)) N (-1)) :
    (cb_G L st (N + 1) (nu_ oc N o) (nu_ (nu_ pc N 0) (st l) (pc (st l) + 1)) (nu_ E N (N + 1)) (nu_ lv N (lv (st l) + 1)) (nu_ kd (st l) (nu_ (kd (st l)) (pc (st l)) N)) (nu_ SC N (cb_sc L st oc pc a b)) (upd op N (nI o)) (upd a N av) (upd b N bv) fi' nx' (upd (upd xp N 0) (st l) (nI (pc (st l) + 1))) (upd xl (st l) (nI N)) xo (upd pa N (nI (st l))) (upd (upd yp N 0) (st l) (nI (pc (st l) + 1)))) := by
  have hlN := (hG.2.1 l (by omega)).1
  have ne : ∀ i, i < L → st i ≠ N := fun i hi => by have := (hG.2.1 i hi).1; omega
  have nl : ∀ i, i < l → st i ≠ st l := fun i hi e => by have := cb_inj hG (by omega) (by omega) e; omega
  have hadd := ct_add (o := o) (cl' := fun m => ∀ i, i < L → st i ≠ m) (w := N + 1) hN hG.2.2.1 hlN (fun _ _ => Iff.rfl) (fun h => h l (by omega) rfl) (cb_kc hG hl) hp (by omega) (fun h => by omega) (fun h => hS (by omega)) (fun h => by omega) (fun c hc => (cb_in hG hl c).mp hc) (fun _ => ⟨by rcases ho with h | h <;> rw [h] <;> rfl, rfl⟩) hf hx (av := av) (bv := bv) (S := cb_sc L st oc pc a b)
  obtain ⟨⟨g1, g2, g3, g4⟩, g5, _, g6, g7⟩ := hG
  refine ⟨⟨by omega, g2, g3, fun _ => ?_⟩, fun i hi => ?_, hadd, fun n hn => ?_, fun i hi h0 j hj => ?_⟩
  · rw [nu_n (show 0 ≠ N by omega), nu_n (show 0 ≠ N by omega)]; exact g4 (by omega)
  · obtain ⟨e1, e2, e3, e4, e5, e6, e7, e8⟩ := g5 i hi
    rw [pk_un (ne i hi), nu_n (ne i hi), nu_n (ne i hi), nu_n (ne i hi)]
    refine ⟨by omega, e2, e3, e4, e5, e6, fun h => ?_, fun c => (e8 c).trans ⟨fun h => ?_, fun h => ?_⟩⟩
    · rw [nu_n (nl i (by omega)), nu_n (nl i (by omega)), nu_n (ne i hi), pk_un (nl i (by omega)), pk_un (ne i hi)]
      exact e7 h
    · obtain ⟨j, hj, hm⟩ := h
      refine ⟨j, hj, ?_⟩
      unfold cb_mk
      rw [nu_n (ne j (by omega)), pk_un (ne j (by omega)), pk_un (ne j (by omega)), nu_n (nl j (by omega)), nu_n (ne j (by omega))]
      exact hm
    · obtain ⟨j, hj, hm⟩ := h
      refine ⟨j, hj, ?_⟩
      unfold cb_mk at hm
      rw [nu_n (ne j (by omega)), pk_un (ne j (by omega)), pk_un (ne j (by omega)), nu_n (nl j (by omega)), nu_n (ne j (by omega))] at hm
      exact hm
  · by_cases h1 : n = st l
    · subst h1
      rw [pk_us, nu_s, pk_us, pk_us, nu_s]
      refine ⟨rfl, fun _ => rfl, fun _ => ?_⟩
      rw [Nat.add_sub_cancel, nu_s]
    · rw [pk_un h1, nu_n h1, pk_un h1, pk_un h1, nu_n h1]
      by_cases h2 : n = N
      · subst h2
        rw [pk_us, nu_s, pk_us]
        exact ⟨rfl, fun _ => rfl, fun h => by omega⟩
      · rw [pk_un h2, nu_n h2, pk_un h2]
        exact g6 n (by omega)
  · obtain rfl : i = l := by omega
    rw [nu_s, nu_s, Nat.add_sub_cancel, nu_s]
    exact ne j hj
theorem cb_open {l o : Nat} {av bv : Int32} {fi' nx' : Nat → Int32} (hG : (cb_G L st N oc pc E lv kd SC op a b fi nx xp xl xo pa yp)) (hl : l + 1 = L) (hN : N < 96) (hL : L < 16) (hp : pc (st l) < ct_mx (oc (st l))) (ho : o < 20) (h10 : o = 10 → ∃ p q, av = nI p ∧ bv = nI q ∧ q ≤ 3 ∧ p + q ≤ 8) (hS : o = 9 → cb_sc L st oc pc a b av)
    (hf : fi' = upd (if pc (st l) = 0 then upd fi (st l) (nI N) else fi) N (-1)) (hx : nx' = upd (if pc (st l) = 0 then nx else upd nx (kd (st l) (pc (st l) - 1)) (nI N)) N (-1)) :
    (cb_G (L + 1) (nu_ st L N) (N + 1) (nu_ oc N o) (nu_ (nu_ pc N 0) (st l) (pc (st l) + 1)) (nu_ E N (N + 1)) (nu_ lv N (lv (st l) + 1)) (nu_ kd (st l) (nu_ (kd (st l)) (pc (st l)) N)) (nu_ SC N (cb_sc L st oc pc a b)) (upd op N (nI o)) (upd a N av) (upd b N bv) fi' nx' (upd xp N 0) (upd xl (st l) (nI N)) (upd xo L (nI N)) (upd pa N (nI (st l))) (upd (upd yp N 0) (st l) (nI (pc (st l) + 1)))) := by
  have hlN := (hG.2.1 l (by omega)).1
  have ne : ∀ i, i < L → st i ≠ N := fun i hi => by have := (hG.2.1 i hi).1; omega
  have nl : ∀ i, i < l → st i ≠ st l := fun i hi e => by have := cb_inj hG (by omega) (by omega) e; omega
  have hadd := ct_add (o := o) (cl' := fun m => ∀ i, i < L + 1 → nu_ st L N i ≠ m) (w := N + 1) hN hG.2.2.1 hlN (fun m hm => ⟨fun h i hi => by have := h i (by omega); rw [nu_n (by omega)] at this; exact this, fun h i hi => by
    by_cases e : i = L
    · rw [e, nu_s]; omega
    · rw [nu_n e]; exact h i (by omega)⟩) (fun h => h l (by omega) rfl) (cb_kc hG hl) hp (by omega) h10 (fun h => hS (by omega)) (fun _ => by have := (hG.2.1 l (by omega)).2.2.2.2.1; omega) (fun c hc => (cb_in hG hl c).mp hc) (fun h => absurd nu_s (h L (by omega))) hf hx (av := av) (bv := bv) (S := cb_sc L st oc pc a b)
  obtain ⟨⟨g1, g2, g3, g4⟩, g5, _, g6, g7⟩ := hG
  refine ⟨⟨by omega, by omega, fun _ => ?_, fun _ => ?_⟩, fun i hi => ?_, hadd, fun n hn => ?_, fun i hi h0 j hj => ?_⟩
  · rw [nu_n (by omega)]; exact g3 (by omega)
  · rw [nu_n (show 0 ≠ N by omega), nu_n (show 0 ≠ N by omega)]; exact g4 (by omega)
  · rcases Nat.lt_or_ge i L with hi2 | hi2
    · obtain ⟨e1, e2, e3, e4, e5, e6, e7, e8⟩ := g5 i hi2
      rw [nu_n (show i ≠ L by omega), pk_un (show i ≠ L by omega), pk_un (ne i hi2), nu_n (ne i hi2), nu_n (ne i hi2), nu_n (ne i hi2)]
      refine ⟨by omega, e2, ?_, e4, e5, fun j hj => ?_, fun h => ?_, fun c => (e8 c).trans ⟨fun h => ?_, fun h => ?_⟩⟩
      · rw [e3]
        by_cases h0 : i = 0
        · rw [if_pos h0, if_pos h0]
        · rw [if_neg h0, if_neg h0, nu_n (by omega)]
      · rw [nu_n (show j ≠ L by omega)]; exact e6 j hj
      · by_cases h1 : i = l
        · subst h1
          rw [nu_s, nu_s, Nat.add_sub_cancel, nu_s, hl, nu_s, pk_un (ne i hi2)]
          exact ⟨by omega, rfl, (g6 (st i) e1).2.1 (fun j hj e => nl j (by omega) e)⟩
        · rw [nu_n (nl i (by omega)), nu_n (nl i (by omega)), nu_n (ne i hi2), nu_n (show i + 1 ≠ L by omega), pk_un (ne i hi2)]
          exact e7 (by omega)
      · obtain ⟨j, hj, hm⟩ := h
        refine ⟨j, hj, ?_⟩
        unfold cb_mk
        rw [nu_n (show j ≠ L by omega), nu_n (ne j (by omega)), pk_un (ne j (by omega)), pk_un (ne j (by omega)), nu_n (nl j (by omega)), nu_n (ne j (by omega))]
        exact hm
      · obtain ⟨j, hj, hm⟩ := h
        refine ⟨j, hj, ?_⟩
        unfold cb_mk at hm
        rw [nu_n (show j ≠ L by omega), nu_n (ne j (by omega)), pk_un (ne j (by omega)), pk_un (ne j (by omega)), nu_n (nl j (by omega)), nu_n (ne j (by omega))] at hm
        exact hm
    · obtain rfl : i = L := by omega
      rw [nu_s, pk_us, pk_us, nu_s, nu_s, nu_s, if_neg (show ¬ i = 0 by omega), nu_n (show i - 1 ≠ i by omega), show i - 1 = l by omega]
      refine ⟨by omega, rfl, rfl, ho, by have := (g5 l (by omega)).2.2.2.2.1; omega, fun j hj => ?_, fun h => by omega, fun c => ⟨fun h => ?_, fun h => ?_⟩⟩
      · rw [nu_n (show j ≠ i by omega)]; exact (g5 j hj).1
      · obtain ⟨j, hj, hm⟩ := h
        refine ⟨j, hj, ?_⟩
        unfold cb_mk
        rw [nu_n (show j ≠ i by omega), nu_n (ne j hj), pk_un (ne j hj), pk_un (ne j hj)]
        by_cases h1 : j = l
        · subst h1
          rw [nu_s, Nat.add_sub_cancel]
          unfold cb_q at hm; rw [if_neg (by omega)] at hm
          exact hm
        · rw [nu_n (nl j (by omega)), nu_n (ne j hj)]
          unfold cb_q at hm; rw [if_pos (by omega)] at hm
          exact hm
      · obtain ⟨j, hj, hm⟩ := h
        refine ⟨j, hj, ?_⟩
        unfold cb_mk at hm
        rw [nu_n (show j ≠ i by omega), nu_n (ne j hj), pk_un (ne j hj), pk_un (ne j hj)] at hm
        by_cases h1 : j = l
        · subst h1
          rw [nu_s, Nat.add_sub_cancel] at hm
          unfold cb_q; rw [if_neg (by omega)]
          exact hm
        · rw [nu_n (nl j (by omega)), nu_n (ne j hj)] at hm
          unfold cb_q; rw [if_pos (by omega)]
          exact hm
  · by_cases h1 : n = st l
    · subst h1
      rw [pk_us, nu_s, pk_us, nu_s]
      refine ⟨rfl, fun h => absurd (nu_n (show l ≠ L by omega)) (h l (by omega)), fun _ => ?_⟩
      rw [Nat.add_sub_cancel, nu_s]
    · rw [pk_un h1, nu_n h1, pk_un h1, nu_n h1]
      by_cases h2 : n = N
      · subst h2
        rw [pk_us, nu_s, pk_us]
        exact ⟨rfl, fun _ => rfl, fun h => by omega⟩
      · rw [pk_un h2, nu_n h2, pk_un h2]
        obtain ⟨e1, e2, e3⟩ := g6 n (by omega)
        refine ⟨e1, fun h => e2 (fun i hi e => ?_), e3⟩
        have := h i (by omega)
        rw [nu_n (by omega)] at this
        exact this e
  · obtain rfl : i = L := by omega
    rw [nu_s, nu_n (show N ≠ st l by omega), nu_s] at h0
    omega
theorem cb_close {l : Nat} {xp' : Nat → Int32} (hG : (cb_G L st N oc pc E lv kd SC op a b fi nx xp xl xo pa yp)) (hl : l + 1 = L) (hm : ct_mn (oc (st l)) ≤ pc (st l)) (hx : xp' = if l = 0 then xp else upd xp (st (l - 1)) (nI (pc (st (l - 1))))) :
    (cb_G l st N oc pc (nu_ E (st l) N) lv kd SC op a b fi nx xp' xl xo pa yp) := by
  have kc := cb_kc hG hl
  have ij : ∀ i, i < L → st i = st l → i = l := fun i hi e => cb_inj hG hi (by omega) e
  have ij2 : ∀ i, i < L → 0 < l → st i = st (l - 1) → i = l - 1 := fun i hi h0 e => cb_inj hG hi (by omega) e
  obtain ⟨⟨g1, g2, g3, g4⟩, g5, g8, g6, g7⟩ := hG
  have hlN := (g5 l (by omega)).1
  refine ⟨⟨g1, by omega, fun h => g3 (by omega), g4⟩, fun i hi => ?_, fun n hn => ?_, fun n hn => ?_, fun i hi h0 j hj => ?_⟩
  · obtain ⟨e1, e2, e3, e4, e5, e6, e7, e8⟩ := g5 i (by omega)
    refine ⟨e1, e2, e3, e4, e5, e6, fun h => ?_, e8⟩
    obtain ⟨f1, f2, f3⟩ := e7 (by omega)
    refine ⟨f1, f2, ?_⟩
    rw [hx, if_neg (by omega), pk_un (fun e => by have := ij2 i (by omega) (by omega) e; omega)]
    exact f3
  · obtain ⟨h1, h2, h3, h4, h5, h6, h7⟩ := g8 n hn
    refine ⟨h1, h2, h3, h4, h5, fun i hi => ?_, fun hc => ?_⟩
    · obtain ⟨e1, e2, e3, e4, e5, e6, e7⟩ := h6 i hi
      refine ⟨e1, e2, e3, e4, fun h => ?_, e6, e7⟩
      obtain ⟨f1, f2, f3⟩ := e5 h
      refine ⟨f1, ?_, fun j hj => f3 j (by omega)⟩
      rw [nu_n (fun e => f3 l (by omega) e.symm)]; exact f2
    · by_cases hnl : n = st l
      · subst hnl
        rw [nu_s]
        refine ⟨hm, hlN, Nat.le_refl _, fun i hi => ⟨fun j hj => kc i hi j (by omega), ?_⟩⟩
        rw [nu_n (fun e => kc i hi l (by omega) e.symm)]
        exact ((g8 _ (h6 i hi).2.1).2.2.2.2.2.2 (kc i hi)).2.2.1
      · have hc' : ∀ i, i < L → st i ≠ n := by
          intro i hi e
          rcases Nat.lt_or_ge i l with h | h
          · exact hc i h e
          · exact hnl (by rw [← e, show i = l by omega])
        obtain ⟨f1, f2, f3, f4⟩ := h7 hc'
        rw [nu_n hnl]
        refine ⟨f1, f2, f3, fun i hi => ⟨fun j hj => (f4 i hi).1 j (by omega), ?_⟩⟩
        rw [nu_n (fun e => (f4 i hi).1 l (by omega) e.symm)]
        exact (f4 i hi).2
  · obtain ⟨e1, e2, e3⟩ := g6 n hn
    refine ⟨e1, fun h => ?_, e3⟩
    rw [hx]
    by_cases h0 : l = 0
    · rw [if_pos h0]; exact e2 (fun i hi => by omega)
    · rw [if_neg h0]
      by_cases h1 : n = st (l - 1)
      · rw [h1, pk_us]
      · rw [pk_un h1]
        refine e2 (fun i hi e => ?_)
        rcases Nat.lt_or_ge (i + 1) l with h2 | h2
        · exact h i h2 e
        · exact h1 (by rw [← e, show i = l - 1 by omega])
  · obtain rfl : i = l - 1 := by omega
    have := ((g5 (l - 1) (by omega)).2.2.2.2.2.2.1 (by omega)).2.1
    rw [this, show l - 1 + 1 = l by omega]
    intro e
    have := ij j (by omega) e
    omega
end
