section
/-! rows pasted from kit/rows -/
theorem pk_us {f : Nat → Int32} {k : Nat} {x : Int32} : upd f k x k = x := if_pos rfl
theorem pk_un {f : Nat → Int32} {k j : Nat} {x : Int32} (h : j ≠ k) : upd f k x j = f j := if_neg h
theorem pk_uLs {f : Nat → Int64} {k : Nat} {x : Int64} : vp_updL f k x k = x := if_pos rfl
theorem pk_uLn {f : Nat → Int64} {k j : Nat} {x : Int64} (h : j ≠ k) : vp_updL f k x j = f j := if_neg h
theorem pk_sub {a b : Nat} (h : b ≤ a) : nI a - nI b = nI (a - b) := by
  obtain ⟨c, rfl⟩ : ∃ c, a = c + b := ⟨a - b, by omega⟩
  rw [← nI_add, Int32.add_sub_cancel, Nat.add_sub_cancel]
theorem pk_m1 (n : Nat) : nI (n + 1) + (-1) = nI n := by
  rw [← nI_1, Int32.add_assoc, show (1 : Int32) + (-1) = 0 from rfl, Int32.add_zero]
theorem pk_mul (a b : Nat) : nI a * nI b = nI (a * b) := (Int32.ofNat_mul a b).symm
theorem pk_ix (x : Int32) {n : Nat} (hn : n < 2 ^ 31) : x < 0 ∨ nI n ≤ x ∨ ∃ j : Nat, j < n ∧ x = nI j := by
  by_cases h : x < 0
  · exact Or.inl h
  · obtain ⟨j, hj, rfl⟩ := nI_of h
    by_cases h2 : j < n
    · exact Or.inr (Or.inr ⟨j, h2, rfl⟩)
    · exact Or.inr (Or.inl (nI_le (by omega) hj))
theorem pk_le {x y : Int32} {A B : Prop} (a b : Nat) (f : a ≤ b → A) (g : b < a → B) (hx : x = nI a := by rfl) (hy : y = nI b := by rfl) (ha : a < 2 ^ 31 := by omega) (hb : b < 2 ^ 31 := by omega) : (x ≤ y → A) ∧ (¬ x ≤ y → B) := by
  subst hx hy
  rw [nI_leI ha hb]
  exact ⟨f, fun z => g (by omega)⟩
theorem pk_lt {x y : Int32} {A B : Prop} (a b : Nat) (f : a < b → A) (g : b ≤ a → B) (hx : x = nI a := by rfl) (hy : y = nI b := by rfl) (ha : a < 2 ^ 31 := by omega) (hb : b < 2 ^ 31 := by omega) : (x < y → A) ∧ (¬ x < y → B) := by
  subst hx hy
  rw [nI_ltI ha hb]
  exact ⟨f, fun z => g (by omega)⟩
theorem pk_eq {x y : Int32} {A B : Prop} (a b : Nat) (f : a = b → A) (g : a ≠ b → B) (hx : x = nI a := by rfl) (hy : y = nI b := by rfl) (ha : a < 2 ^ 31 := by omega) (hb : b < 2 ^ 31 := by omega) : (x = y → A) ∧ (¬ x = y → B) := by
  subst hx hy
  rw [nI_eq ha hb]
  exact ⟨f, g⟩
theorem pk_in {x : Int32} (n N : Nat) (h : n < N) (hx : x = nI n := by rfl) (hN : N < 2 ^ 31 := by omega) : vp_in x N := by
  subst hx
  exact vp_in_nI h hN
theorem pk_cl {x : Int32} (n : Nat) (hx : x = nI n := by rfl) (h : n < 2 ^ 31 := by omega) : x.toNatClampNeg = n := by
  subst hx
  exact nI_clamp h
theorem pk_tn {n : Nat} (h : n < 2 ^ 32) : (nI n).toBitVec.toNat = n := Nat.mod_eq_of_lt h
theorem pk_lT {n : Nat} (h : n < 2 ^ 63) : (lN n).toInt = (n : Int) := lg_ofNat_toInt h
theorem pk_lLT {a b : Nat} (ha : a < 2 ^ 63) (hb : b < 2 ^ 63) : lN a < lN b ↔ a < b := by
  rw [Int64.lt_iff_toInt_lt, pk_lT ha, pk_lT hb]; omega
theorem pk_lLE {a b : Nat} (ha : a < 2 ^ 63) (hb : b < 2 ^ 63) : lN a ≤ lN b ↔ a ≤ b := by
  rw [Int64.le_iff_toInt_le, pk_lT ha, pk_lT hb]; omega
theorem pk_lEQ {a b : Nat} (ha : a < 2 ^ 63) (hb : b < 2 ^ 63) : lN a = lN b ↔ a = b := by
  rw [← Int64.toInt_inj, pk_lT ha, pk_lT hb]; omega
theorem pk_lOf {x : Int64} (h : ¬ x < 0) : ∃ k : Nat, k < 2 ^ 63 ∧ x = lN k := by
  rw [Int64.lt_iff_toInt_lt] at h
  have h0 : (0 : Int64).toInt = 0 := by decide
  have hx := Int64.toInt_lt x
  refine ⟨x.toInt.toNat, by omega, Int64.toInt_inj.mp ?_⟩
  rw [pk_lT (by omega)]
  omega
theorem lp1 {A1 : Type} (W : Nat → A1 → Prop) (I : A1 → Prop) (μ : A1 → Nat) (hs : ∀ (n : Nat) (a1 : A1), I a1 → (∀ (b1 : A1), I b1 → μ b1 < μ a1 → W n b1) → W (n + 1) a1) (a1 : A1) (h : I a1) : ∃ n, W n a1 :=
  loop_m (σ := A1) (fun n s => W n s) (fun s => I s) (fun s => μ s) (fun n s hI hk => hs n s hI (fun b1 h9 hm => hk b1 h9 hm)) a1 h
theorem lp2 {A1 A2 : Type} (W : Nat → A1 → A2 → Prop) (I : A1 → A2 → Prop) (μ : A1 → A2 → Nat) (hs : ∀ (n : Nat) (a1 : A1) (a2 : A2), I a1 a2 → (∀ (b1 : A1) (b2 : A2), I b1 b2 → μ b1 b2 < μ a1 a2 → W n b1 b2) → W (n + 1) a1 a2) (a1 : A1) (a2 : A2) (h : I a1 a2) : ∃ n, W n a1 a2 :=
  loop_m (σ := A1 × A2) (fun n s => W n s.1 s.2) (fun s => I s.1 s.2) (fun s => μ s.1 s.2) (fun n s hI hk => hs n s.1 s.2 hI (fun b1 b2 h9 hm => hk (b1, b2) h9 hm)) (a1, a2) h
theorem lp3 {A1 A2 A3 : Type} (W : Nat → A1 → A2 → A3 → Prop) (I : A1 → A2 → A3 → Prop) (μ : A1 → A2 → A3 → Nat) (hs : ∀ (n : Nat) (a1 : A1) (a2 : A2) (a3 : A3), I a1 a2 a3 → (∀ (b1 : A1) (b2 : A2) (b3 : A3), I b1 b2 b3 → μ b1 b2 b3 < μ a1 a2 a3 → W n b1 b2 b3) → W (n + 1) a1 a2 a3) (a1 : A1) (a2 : A2) (a3 : A3) (h : I a1 a2 a3) : ∃ n, W n a1 a2 a3 :=
  loop_m (σ := A1 × A2 × A3) (fun n s => W n s.1 s.2.1 s.2.2) (fun s => I s.1 s.2.1 s.2.2) (fun s => μ s.1 s.2.1 s.2.2) (fun n s hI hk => hs n s.1 s.2.1 s.2.2 hI (fun b1 b2 b3 h9 hm => hk (b1, b2, b3) h9 hm)) (a1, a2, a3) h
theorem wb_tb (n : Nat) : (lN n).toBitVec = BitVec.ofNat 64 n := rfl
theorem wb_inj {a b : Int64} (h : a.toBitVec = b.toBitVec) : a = b := Int64.toBitVec_inj.mp h
theorem wb_tn {n : Nat} (h : n < 2 ^ 64) : (lN n).toBitVec.toNat = n := by rw [wb_tb, BitVec.toNat_ofNat, Nat.mod_eq_of_lt h]
theorem wb_of (x : Int64) : ∃ n, n < 2 ^ 64 ∧ x = lN n := ⟨x.toBitVec.toNat, x.toBitVec.isLt, wb_inj (by rw [wb_tb]; simp)⟩
theorem wb_of32 (x : Int32) : ∃ n, n < 2 ^ 32 ∧ x = nI n := ⟨x.toBitVec.toNat, x.toBitVec.isLt, Int32.toBitVec_inj.mp (by show _ = BitVec.ofNat 32 _; simp)⟩
theorem wb_c : ∀ k, k < 64 → ((nI k).toInt64 &&& 63) = lN k := by decide +kernel
theorem wb_cu : ∀ k, k < 64 → ((nI k).toInt64.toUInt64 &&& Int64.toUInt64 63) = UInt64.ofNat k := by decide +kernel
theorem wb_sm : ∀ k, k < 64 → (BitVec.ofNat 64 k).smod 64 = BitVec.ofNat 64 k := by decide +kernel
theorem wb_pw {a b : Nat} (h : a ≤ b) : 2 ^ b = 2 ^ a * 2 ^ (b - a) := by rw [← Nat.pow_add]; congr 1; omega
theorem wb_lt2 {a b : Nat} (h : a < b) : 2 ^ a < 2 ^ b := Nat.pow_lt_pow_right (by decide) h
theorem wb_mod (n : Nat) : lN n = lN (n % 2 ^ 64) := wb_inj (by rw [wb_tb, wb_tb]; apply BitVec.eq_of_toNat_eq; rw [BitVec.toNat_ofNat, BitVec.toNat_ofNat, Nat.mod_mod])
theorem wb_shr {n k : Nat} (hn : n < 2 ^ 64) (hk : k < 64) : ((lN n).toUInt64 >>> ((nI k).toInt64.toUInt64 &&& Int64.toUInt64 63)).toInt64 = lN (n / 2 ^ k) := by
  rw [wb_cu k hk]
  apply wb_inj
  apply BitVec.eq_of_toNat_eq
  show ((lN n).toUInt64 >>> UInt64.ofNat k).toNat = (BitVec.ofNat 64 _).toNat
  have h1 : (UInt64.ofNat k).toNat = k := by
    show (BitVec.ofNat 64 k).toNat = k
    rw [BitVec.toNat_ofNat, Nat.mod_eq_of_lt (by omega)]
  have h2 : (lN n).toUInt64.toNat = n := wb_tn hn
  rw [UInt64.toNat_shiftRight, h1, h2, Nat.mod_eq_of_lt hk, Nat.shiftRight_eq_div_pow, BitVec.toNat_ofNat, Nat.mod_eq_of_lt (Nat.lt_of_le_of_lt (Nat.div_le_self _ _) hn)]
theorem wb_shl (n : Nat) {k : Nat} (hk : k < 64) : lN n <<< ((nI k).toInt64 &&& 63) = lN (n * 2 ^ k) := by
  rw [wb_c k hk]
  apply wb_inj
  rw [Int64.toBitVec_shiftLeft, wb_tb, wb_tb, wb_tb, wb_sm k hk]
  apply BitVec.eq_of_toNat_eq
  rw [BitVec.shiftLeft_eq', BitVec.toNat_shiftLeft, BitVec.toNat_ofNat, BitVec.toNat_ofNat, BitVec.toNat_ofNat, Nat.mod_eq_of_lt (show k < 2 ^ 64 by omega), Nat.shiftLeft_eq, Nat.mul_mod, Nat.mod_mod, ← Nat.mul_mod]
theorem wb_and {a b : Nat} (ha : a < 2 ^ 64) (hb : b < 2 ^ 64) : lN a &&& lN b = lN (a &&& b) := by
  apply wb_inj
  rw [Int64.toBitVec_and, wb_tb, wb_tb, wb_tb]
  apply BitVec.eq_of_toNat_eq
  rw [BitVec.toNat_and, BitVec.toNat_ofNat, BitVec.toNat_ofNat, BitVec.toNat_ofNat, Nat.mod_eq_of_lt ha, Nat.mod_eq_of_lt hb, Nat.mod_eq_of_lt (Nat.and_lt_two_pow _ hb)]
theorem wb_or {a b : Nat} (ha : a < 2 ^ 64) (hb : b < 2 ^ 64) : lN a ||| lN b = lN (a ||| b) := by
  apply wb_inj
  rw [Int64.toBitVec_or, wb_tb, wb_tb, wb_tb]
  apply BitVec.eq_of_toNat_eq
  rw [BitVec.toNat_or, BitVec.toNat_ofNat, BitVec.toNat_ofNat, BitVec.toNat_ofNat, Nat.mod_eq_of_lt ha, Nat.mod_eq_of_lt hb, Nat.mod_eq_of_lt (Nat.or_lt_two_pow ha hb)]
theorem wb_mask {n k : Nat} (hn : n < 2 ^ 64) (hk : k < 64) : lN n &&& lN (2 ^ k - 1) = lN (n % 2 ^ k) := by
  rw [wb_and hn (by have := wb_lt2 hk; omega), Nat.and_two_pow_sub_one_eq_mod]
theorem u_tn {n : Nat} (h : n < 2 ^ 64) : (UInt64.ofNat n).toNat = n := Nat.mod_eq_of_lt h
theorem g_and {a b c : Nat} (ha : a < 2 ^ 64) (hb : b < 2 ^ 64) (hc : a &&& b = c) : lN a &&& lN b = lN c := by
  subst hc
  have h : UInt64.ofNat a &&& UInt64.ofNat b = UInt64.ofNat (a &&& b) := UInt64.toNat_inj.mp (by rw [UInt64.toNat_and, u_tn ha, u_tn hb, u_tn (Nat.and_lt_two_pow a hb)])
  have h2 := congrArg UInt64.toInt64 h
  exact h2
theorem g_mask {a s p : Nat} (hp : 2 ^ s = p) (hs : s < 64) (ha : a < 2 ^ 64) : lN a &&& lN (p - 1) = lN (a % p) := by
  subst hp
  have := Nat.pow_lt_pow_right (show 1 < 2 by decide) hs
  exact g_and ha (by omega) (Nat.and_two_pow_sub_one_eq_mod a s)
theorem g_or {k p a b : Nat} (hp : 2 ^ k = p) (ha : a < p) (h : b * p + a < 2 ^ 64) : lN (b * p) ||| lN a = lN (b * p + a) := by
  subst hp
  have h1 : b * 2 ^ k ||| a = b * 2 ^ k + a := by rw [← Nat.shiftLeft_eq, Nat.shiftLeft_add_eq_or_of_lt ha]
  have h3 : UInt64.ofNat (b * 2 ^ k) ||| UInt64.ofNat a = UInt64.ofNat (b * 2 ^ k + a) := UInt64.toNat_inj.mp (by rw [UInt64.toNat_or, u_tn (by omega), u_tn (by omega), u_tn h, h1])
  have h2 := congrArg UInt64.toInt64 h3
  exact h2
end
section
/-! values: the reference's number y, the component's number cv_X y -/
def cv_X (y : Nat) : Nat := if y < 4294967296 then y + 4294967296 else if y = 4294967296 then 0 else if y < 12884901888 then y else y + 1
def cv_ok (F C y : Nat) : Prop := y ≤ 4294967296 ∨ (8589934592 ≤ y ∧ y < 8589934592 + F) ∨ (12884901888 ≤ y ∧ y < 12884901888 + C)
def cv_R (F C : Nat) (a b : Int64) : Prop := ∃ y, cv_ok F C y ∧ a = lN (cv_X y) ∧ b = lN y
theorem cv_mono {F C F' C' : Nat} {a b : Int64} (hF : F ≤ F') (hC : C ≤ C') (h : cv_R F C a b) : cv_R F' C' a b := by
  obtain ⟨y, hy, h1, h2⟩ := h
  refine ⟨y, ?_, h1, h2⟩
  rcases hy with h | h | h
  · exact Or.inl h
  · exact Or.inr (Or.inl ⟨h.1, by omega⟩)
  · exact Or.inr (Or.inr ⟨h.1, by omega⟩)
theorem cv_lt {F C y : Nat} (hF : F ≤ 40) (hC : C ≤ 6) (h : cv_ok F C y) : y < 12884901900 := by
  rcases h with h | h | h <;> omega
theorem cv_Xlt {y : Nat} (h : y < 12884901900) : cv_X y < 12884901901 := by
  unfold cv_X; split <;> (try split) <;> (try split) <;> omega
theorem cv_inj {F C y w : Nat} (hF : F ≤ 40) (hC : C ≤ 6) (h : cv_ok F C y) (g : cv_ok F C w) (e : cv_X y = cv_X w) : y = w := by
  unfold cv_X at e; unfold cv_ok at h g
  split at e <;> split at e <;> (try split at e) <;> (try split at e) <;> (try split at e) <;> (try split at e) <;> omega
/-- numbers -/
def cv_n (x : Int32) : Nat := x.toBitVec.toNat
theorem cv_n_lt (x : Int32) : cv_n x < 4294967296 := x.toBitVec.isLt
theorem cv_n_I (x : Int32) : nI (cv_n x) = x := Int32.toBitVec_inj.mp (by show BitVec.ofNat 32 _ = _; simp [cv_n])
theorem cv_nI_mod (n : Nat) : nI (n % 4294967296) = nI n := Int32.toBitVec_inj.mp (by show BitVec.ofNat 32 _ = BitVec.ofNat 32 _; apply BitVec.eq_of_toNat_eq; simp)
theorem cv_n_nI {n : Nat} (h : n < 4294967296) : cv_n (nI n) = n := by
  show (BitVec.ofNat 32 n).toNat = n
  rw [BitVec.toNat_ofNat]; exact Nat.mod_eq_of_lt h
theorem cv_num {F C : Nat} (x : Int32) : cv_R F C (lN (cv_n x + 4294967296)) (lN (cv_n x)) := by
  have h := cv_n_lt x
  refine ⟨cv_n x, Or.inl (by omega), ?_, rfl⟩
  unfold cv_X; rw [if_pos h]
theorem cv_nil {F C : Nat} : cv_R F C 0 4294967296 := ⟨4294967296, Or.inl (by omega), rfl, rfl⟩
theorem cv_fun {F C f : Nat} (hf : f < F) (hF : F ≤ 40) : cv_R F C (lN (8589934592 + f)) (lN (8589934592 + f)) := by
  refine ⟨8589934592 + f, Or.inr (Or.inl ⟨by omega, by omega⟩), ?_, rfl⟩
  unfold cv_X; rw [if_neg (by omega), if_neg (by omega), if_pos (by omega)]
theorem cv_co {F C c : Nat} (hc : c < C) (hC : C ≤ 6) : cv_R F C (lN (12884901888 + c + 1)) (lN (12884901888 + c)) := by
  refine ⟨12884901888 + c, Or.inr (Or.inr ⟨by omega, by omega⟩), ?_, rfl⟩
  unfold cv_X; rw [if_neg (by omega), if_neg (by omega), if_neg (by omega)]
/-- a related pair is a number, nil, a function or a coroutine -/
theorem cv_cases {F C : Nat} {a b : Int64} (hF : F ≤ 40) (h : cv_R F C a b) : (∃ n, n < 4294967296 ∧ a = lN (n + 4294967296) ∧ b = lN n) ∨ (a = lN 0 ∧ b = lN 4294967296) ∨ (∃ f, f < F ∧ a = lN (8589934592 + f) ∧ b = lN (8589934592 + f)) ∨ (∃ c, c < C ∧ a = lN (12884901888 + c + 1) ∧ b = lN (12884901888 + c)) := by
  obtain ⟨y, hy, rfl, rfl⟩ := h
  rcases hy with h | h | h
  · rcases Nat.lt_or_ge y 4294967296 with g | g
    · exact Or.inl ⟨y, g, by unfold cv_X; rw [if_pos g], rfl⟩
    · obtain rfl : y = 4294967296 := by omega
      exact Or.inr (Or.inl ⟨rfl, rfl⟩)
  · refine Or.inr (Or.inr (Or.inl ⟨y - 8589934592, by omega, ?_, ?_⟩))
    · unfold cv_X; rw [if_neg (by omega), if_neg (by omega)]
      rw [if_pos (by omega)]; exact congrArg lN (by omega)
    · exact congrArg lN (by omega)
  · refine Or.inr (Or.inr (Or.inr ⟨y - 12884901888, by omega, ?_, ?_⟩))
    · unfold cv_X; rw [if_neg (by omega), if_neg (by omega), if_neg (by omega)]; exact congrArg lN (by omega)
    · exact congrArg lN (by omega)
end
section
/-! the tree of the program -/
section
variable {op a b fi nx pa : Nat → Int32} {N : Nat} {oc pc E lv : Nat → Nat} {kd : Nat → Nat → Nat} {SC : Nat → Int32 → Prop}
def ct_mx (o : Nat) : Nat := if o < 5 ∨ o = 16 then 2 else if o = 5 then 3 else if o = 6 ∨ o = 7 ∨ o = 8 ∨ o = 10 then 96 else if o = 11 then 4 else if 19 ≤ o then 0 else 1
def ct_mn (o : Nat) : Nat := if o = 6 ∨ o = 10 then 0 else if o = 7 ∨ o = 8 ∨ o = 11 then 1 else ct_mx o
/-- c is in scope in part i of list n -/
def ct_in (oc : Nat → Nat) (a b : Nat → Int32) (SC : Nat → Int32 → Prop) (n i : Nat) (c : Int32) : Prop :=
  SC n c ∨ (oc n = 8 ∧ 0 < i ∧ a n = c) ∨ (oc n = 10 ∧ a n ≤ c ∧ c < a n + b n)
def ct_nd (op a b fi nx pa : Nat → Int32) (N : Nat) (oc pc E lv : Nat → Nat) (kd : Nat → Nat → Nat) (SC : Nat → Int32 → Prop) (cl : Nat → Prop) (n : Nat) : Prop :=
  (oc n ≤ 21 ∧ op n = nI (oc n) ∧ pc n ≤ ct_mx (oc n) ∧ n + pc n < N)
  ∧ (oc n = 10 → ∃ p q, a n = nI p ∧ b n = nI q ∧ q ≤ 3 ∧ p + q ≤ 8)
  ∧ ((oc n = 21 ∨ oc n = 9) → SC n (a n))
  ∧ (1 ≤ lv n ∧ (oc n < 20 → lv n ≤ 16))
  ∧ ((pc n = 0 → fi n = -1) ∧ (0 < pc n → fi n = nI (kd n 0)))
  ∧ (∀ i, i < pc n → n < kd n i ∧ kd n i < N ∧ pa (kd n i) = nI n ∧ lv (kd n i) = lv n + 1
      ∧ (i + 1 < pc n → nx (kd n i) = nI (kd n (i + 1)) ∧ E (kd n i) ≤ kd n (i + 1) ∧ cl (kd n i))
      ∧ (i + 1 = pc n → nx (kd n i) = -1)
      ∧ (∀ c, SC (kd n i) c → ct_in oc a b SC n i c))
  ∧ (cl n → ct_mn (oc n) ≤ pc n ∧ n < E n ∧ E n ≤ N ∧ ∀ i, i < pc n → cl (kd n i) ∧ E (kd n i) ≤ E n)
/-- a program that is complete -/
def ct_all (op a b fi nx pa : Nat → Int32) (N : Nat) (oc pc E lv : Nat → Nat) (kd : Nat → Nat → Nat) (SC : Nat → Int32 → Prop) : Prop :=
  0 < N ∧ N ≤ 96 ∧ lv 0 = 1 ∧ (∀ c, ¬ SC 0 c) ∧ ∀ n, n < N → (ct_nd op a b fi nx pa N oc pc E lv kd SC (fun _ => True) n)
/-- the part behind: a node or none -/
def ct_nx (pc : Nat → Nat) (kd : Nat → Nat → Nat) (n q : Nat) : Int32 := if q < pc n then nI (kd n q) else -1
/-- how many parts a frame has taken -/
def ct_tk (o i : Nat) : Nat := if o = 5 then (if i = 0 then 0 else 1) else i
def cz_ (s : Nat) : Nat := if s = 0 then 0 else 1
/-- the values that a frame holds -/
def cf_S (F C o i : Nat) (sl kp : Nat → Int64) : Prop := (o = 8 → i = 0 → sl 0 = 0) ∧ ((o ≠ 5 ∧ o ≠ 6 ∧ o ≠ 7 ∧ o ≠ 8 ∧ o ≠ 10) → ∀ q, q < i → q < 3 → cv_R F C (sl q) (kp q))
/-- a frame of both sides: list n, part i, scope e -/
def cf_G (N : Nat) (oc pc lv : Nat → Nat) (a b : Nat → Int32) (SC : Nat → Int32 → Prop) (F C V : Nat) (D : Nat → Int32 → Prop) (z k k1 j n i e : Nat) (nd tk sc : Int32) (sl : Nat → Int64) (li ai en : Int32) (kp : Nat → Int64) : Prop :=
  (n < N ∧ oc n < 19 ∧ i < pc n ∧ e ≤ V) ∧ (nd = nI n ∧ tk = nI (ct_tk (oc n) i) ∧ sc = nI e) ∧ (li = nI n ∧ ai = nI i ∧ en = nI e - 1)
  ∧ (∀ c, ct_in oc a b SC n i c → D e c) ∧ cf_S F C (oc n) i sl kp ∧ (k1 = k + (if oc n = 10 then 1 else 0) ∧ z ≤ k1 ∧ j + 1 + k1 ≤ 16 * k1 + lv n + z)
/-- a frame that waits for the value of its part i -/
def cf_W (N : Nat) (oc pc E lv : Nat → Nat) (kd : Nat → Nat → Nat) (a b : Nat → Int32) (SC : Nat → Int32 → Prop) (F C V : Nat) (D : Nat → Int32 → Prop) (z k k1 t t1 j : Nat) (nd nn tk sc : Int32) (sl : Nat → Int64) (li ai en : Int32) (kp : Nat → Int64) : Prop :=
  ∃ n i e, (cf_G N oc pc lv a b SC F C V D z k k1 j n i e nd tk sc sl li ai en kp) ∧ nn = ct_nx pc kd n (i + 1) ∧ t + 4 * (E n - E (kd n i)) + 3 ≤ t1
/-- a frame whose part i is next -/
def cf_Rd (N : Nat) (oc pc E lv : Nat → Nat) (kd : Nat → Nat → Nat) (a b : Nat → Int32) (SC : Nat → Int32 → Prop) (F C V : Nat) (D : Nat → Int32 → Prop) (z k k1 t t1 j : Nat) (nd nn tk sc : Int32) (sl : Nat → Int64) (li ai en : Int32) (kp : Nat → Int64) : Prop :=
  ∃ n i e, (cf_G N oc pc lv a b SC F C V D z k k1 j n i e nd tk sc sl li ai en kp) ∧ nn = nI (kd n i) ∧ t + 4 * (E n - kd n i) + 3 ≤ t1
/-- where frame j of strand s lies with the reference -/
def cy_ (K : Nat → Nat → Nat) (s j : Nat) : Nat := 112 * s + (j + K s (j + 1) - cz_ s)
def cf_FX (N : Nat) (oc pc E lv : Nat → Nat) (kd : Nat → Nat → Nat) (a b : Nat → Int32) (SC : Nat → Int32 → Prop) (F C V : Nat) (D : Nat → Int32 → Prop) (K T : Nat → Nat → Nat) (fN fX fS fT : Nat → Int32) (fL : Nat → Int64) (yl ya ye : Nat → Int32) (yk : Nat → Int64) (s j : Nat) : Prop :=
  (cf_W N oc pc E lv kd a b SC F C V D (cz_ s) (K s j) (K s (j + 1)) (T s j) (T s (j + 1)) j (fN (s * 128 + j)) (fX (s * 128 + j)) (fT (s * 128 + j)) (fS (s * 128 + j)) (fun q => fL ((s * 128 + j) * 4 + q)) (yl (cy_ K s j)) (ya (cy_ K s j)) (ye (cy_ K s j)) (fun q => yk (3 * cy_ K s j + q)))
def cf_RX (N : Nat) (oc pc E lv : Nat → Nat) (kd : Nat → Nat → Nat) (a b : Nat → Int32) (SC : Nat → Int32 → Prop) (F C V : Nat) (D : Nat → Int32 → Prop) (K T : Nat → Nat → Nat) (fN fX fS fT : Nat → Int32) (fL : Nat → Int64) (yl ya ye : Nat → Int32) (yk : Nat → Int64) (s j : Nat) : Prop :=
  (cf_Rd N oc pc E lv kd a b SC F C V D (cz_ s) (K s j) (K s (j + 1)) (T s j) (T s (j + 1)) j (fN (s * 128 + j)) (fX (s * 128 + j)) (fT (s * 128 + j)) (fS (s * 128 + j)) (fun q => fL ((s * 128 + j) * 4 + q)) (yl (cy_ K s j)) (ya (cy_ K s j)) (ye (cy_ K s j)) (fun q => yk (3 * cy_ K s j + q)))
/-- the lowest h frames of strand s wait -/
def cf_FR (N : Nat) (oc pc E lv : Nat → Nat) (kd : Nat → Nat → Nat) (a b : Nat → Int32) (SC : Nat → Int32 → Prop) (F C V : Nat) (D : Nat → Int32 → Prop) (K T : Nat → Nat → Nat) (fN fX fS fT : Nat → Int32) (fL : Nat → Int64) (yl ya ye : Nat → Int32) (yk : Nat → Int64) (s h : Nat) : Prop :=
  ∀ j, j < h → (cf_FX N oc pc E lv kd a b SC F C V D K T fN fX fS fT fL yl ya ye yk s j)
/-- the variables -/
def cd_V (F C V : Nat) (D : Nat → Int32 → Prop) (vn vo : Nat → Int32) (vv : Nat → Int64) (wn wu : Nat → Int32) (wv : Nat → Int64) : Prop :=
  (∀ c, ¬ D 0 c) ∧ ∀ v, v < V → vn (v + 1) = wn v ∧ cv_R F C (vv (v + 1)) (wv v) ∧ ∃ o, o ≤ v ∧ vo (v + 1) = nI o ∧ wu v = nI o - 1 ∧ ∀ c, D (v + 1) c → (wn v = c ∨ D o c)
/-- the functions -/
def cd_F (N : Nat) (oc : Nat → Nat) (SC : Nat → Int32 → Prop) (F C V : Nat) (D : Nat → Int32 → Prop) (fn fe gn ge : Nat → Int32) : Prop :=
  ∀ f, f < F → ∃ n e, n < N ∧ oc n = 10 ∧ e ≤ V ∧ fn f = nI n ∧ gn f = nI n ∧ fe f = nI e ∧ ge f = nI e - 1 ∧ ∀ c, SC n c → D e c
/-- a strand that stands still above its frame H s (its RESUME or YIELD) -/
def cs_S (N : Nat) (oc pc E lv : Nat → Nat) (kd : Nat → Nat → Nat) (a b : Nat → Int32) (SC : Nat → Int32 → Prop) (F C V : Nat) (D : Nat → Int32 → Prop) (K T : Nat → Nat → Nat) (fN fX fS fT : Nat → Int32) (fL : Nat → Int64) (yl ya ye : Nat → Int32) (yk : Nat → Int64) (P H : Nat → Nat) (dep : Nat) (xh xc yt yc : Nat → Int32) (s : Nat) : Prop :=
  (cf_FR N oc pc E lv kd a b SC F C V D K T fN fX fS fT fL yl ya ye yk s (H s)) ∧ (K s (H s) ≤ dep ∧ cz_ s ≤ H s ∧ T s (H s) + 2 ≤ P s ∧ H s + 1 + K s (H s) ≤ 112 + cz_ s ∧ cz_ s ≤ K s (H s))
  ∧ (xh s = nI (H s + 1) ∧ yt s = nI (H s + 1 + K s (H s) - cz_ s) ∧ xc s = nI (K s (H s)) ∧ yc s = nI (K s (H s)))
  ∧ ∃ n, n < N ∧ oc n ≠ 10 ∧ yl (112 * s + (H s + K s (H s) - cz_ s)) = nI n
/-- a coroutine -/
def cs_C (N : Nat) (oc pc E lv : Nat → Nat) (kd : Nat → Nat → Nat) (a b : Nat → Int32) (SC : Nat → Int32 → Prop) (F C V : Nat) (D : Nat → Int32 → Prop) (K T : Nat → Nat → Nat) (fN fX fS fT : Nat → Int32) (fL : Nat → Int64) (yl ya ye : Nat → Int32) (yk : Nat → Int64) (P H : Nat → Nat) (dep : Nat) (xh xc yt yc fn xst xf yst yf : Nat → Int32) (s : Nat) : Prop :=
  (∃ w, w ≤ 2 ∧ xst s = nI w ∧ yst s = nI w) ∧ (∃ f n q, f < F ∧ xf s = nI f ∧ yf s = nI f ∧ fn f = nI n ∧ n < N ∧ b n = nI q ∧ q ≤ 1)
  ∧ (xst s = 0 → (xh s = 0 ∧ yt s = 0 ∧ xc s = 0 ∧ yc s = 0) ∨ (cs_S N oc pc E lv kd a b SC F C V D K T fN fX fS fT fL yl ya ye yk P H dep xh xc yt yc s))
/-- who resumed whom: Q 0 is the program, Q k is the active strand -/
def cs_Q (Q : Nat → Nat) (k C : Nat) (xst xr yr : Nat → Int32) : Prop :=
  Q 0 = 0 ∧ (∀ i j, i ≤ k → j ≤ k → Q i = Q j → i = j) ∧ (∀ i, 1 ≤ i → i ≤ k → 1 ≤ Q i ∧ Q i ≤ C ∧ xst (Q i) = 1)
  ∧ (∀ i, i < k → xr (Q (i + 1)) = nI (Q i) ∧ yr (Q (i + 1)) = nI (Q i))
/-- all but what the active strand s has above its h waiting frames -/
def cc_C (N : Nat) (oc pc E lv : Nat → Nat) (kd : Nat → Nat → Nat) (a b : Nat → Int32) (SC : Nat → Int32 → Prop) (F C V : Nat) (D : Nat → Int32 → Prop) (K T : Nat → Nat → Nat) (fN fX fS fT : Nat → Int32) (fL : Nat → Int64) (yl ya ye : Nat → Int32) (yk : Nat → Int64) (P H : Nat → Nat) (dep : Nat) (xh xc yt yc fn fe gn ge vn vo : Nat → Int32) (vv : Nat → Int64) (wn wu : Nat → Int32) (wv : Nat → Int64) (xst xf xr yst yf yr : Nat → Int32) (Q : Nat → Nat) (k s h : Nat) : Prop :=
  (F ≤ 40 ∧ C ≤ 6 ∧ V ≤ 120 ∧ dep ≤ 6 ∧ 1 ≤ dep ∧ Q k = s) ∧ (∀ r, K r 0 = 0) ∧ (cd_V F C V D vn vo vv wn wu wv) ∧ (cd_F N oc SC F C V D fn fe gn ge) ∧ (cs_Q Q k C xst xr yr) ∧ (∀ i, i < k → (cs_S N oc pc E lv kd a b SC F C V D K T fN fX fS fT fL yl ya ye yk P H dep xh xc yt yc (Q i))) ∧ (∀ c, 1 ≤ c → c ≤ C → (cs_C N oc pc E lv kd a b SC F C V D K T fN fX fS fT fL yl ya ye yk P H dep xh xc yt yc fn xst xf yst yf c)) ∧ (∀ c, C < c → c < 7 → yt c = 0 ∧ yc c = 0) ∧ (cf_FR N oc pc E lv kd a b SC F C V D K T fN fX fS fT fL yl ya ye yk s h)
end
end
section
section
variable {op a b fi nx pa : Nat → Int32} {N : Nat} {oc pc E lv : Nat → Nat} {kd : Nat → Nat → Nat} {SC : Nat → Int32 → Prop}
variable {F C V : Nat} {D : Nat → Int32 → Prop} {K T : Nat → Nat → Nat} {fN fX fS fT : Nat → Int32} {fL : Nat → Int64} {yl ya ye : Nat → Int32} {yk : Nat → Int64} {P H : Nat → Nat} {dep : Nat} {xh xc yt yc fn fe gn ge vn vo : Nat → Int32} {vv : Nat → Int64} {wn wu : Nat → Int32} {wv : Nat → Int64} {xst xf xr yst yf yr : Nat → Int32} {Q : Nat → Nat} {k s h : Nat}
variable {F' C' V' : Nat} {D' : Nat → Int32 → Prop} {K' T' : Nat → Nat → Nat} {fN' fX' fS' fT' : Nat → Int32} {fL' : Nat → Int64} {yl' ya' ye' : Nat → Int32} {yk' : Nat → Int64}
/-- g is f but between lo and hi -/
def ca_ {α : Type} (lo hi : Nat) (f g : Nat → α) : Prop := ∀ i, (i < lo ∨ hi ≤ i) → g i = f i
theorem ca_r {α : Type} {lo hi : Nat} {f : Nat → α} : ca_ lo hi f f := fun _ _ => rfl
theorem ca_u {lo hi k : Nat} {f g : Nat → Int32} {v : Int32} (h : ca_ lo hi f g) (h1 : lo ≤ k) (h2 : k < hi) : ca_ lo hi f (upd g k v) := fun i hi => (pk_un (by omega)).trans (h i hi)
theorem ca_l {lo hi k : Nat} {f g : Nat → Int64} {v : Int64} (h : ca_ lo hi f g) (h1 : lo ≤ k) (h2 : k < hi) : ca_ lo hi f (vp_updL g k v) := fun i hi => (pk_uLn (by omega)).trans (h i hi)
theorem ca_p {α : Type} {s : Nat} {f : Nat → α} {v : α} : ca_ s (s + 1) f (fun r => if r = s then v else f r) := fun i hi => if_neg (by omega)
theorem ca_w {α : Type} {lo hi lo' hi' : Nat} {f g : Nat → α} (h : ca_ lo hi f g) (h1 : lo' ≤ lo) (h2 : hi ≤ hi') : ca_ lo' hi' f g := fun i hi => h i (by omega)
theorem ca_t {α : Type} {lo hi : Nat} {f g e : Nat → α} (h : ca_ lo hi f g) (h2 : ca_ lo hi g e) : ca_ lo hi f e := fun i hi => (h2 i hi).trans (h i hi)
theorem cf_S_go {o i : Nat} {sl kp sl' kp' : Nat → Int64} (h : cf_S F C o i sl kp) (hF : F ≤ F') (hC : C ≤ C') (h1 : ∀ q, q < 3 → sl' q = sl q) (h2 : ∀ q, q < 3 → kp' q = kp q) : cf_S F' C' o i sl' kp' := by
  refine ⟨fun ho hi => (h1 0 (by omega)).trans (h.1 ho hi), fun ho q hq h3 => ?_⟩
  rw [h1 q h3, h2 q h3]
  exact cv_mono hF hC (h.2 ho q hq h3)
theorem cf_FX_go {j : Nat} (h : (cf_FX N oc pc E lv kd a b SC F C V D K T fN fX fS fT fL yl ya ye yk s j)) (hF : F ≤ F') (hC : C ≤ C') (hV : V ≤ V') (hD : ∀ e, e ≤ V → ∀ c, D e c → D' e c) (hK0 : K' s j = K s j) (hK1 : K' s (j + 1) = K s (j + 1)) (hT0 : T' s j = T s j) (hT1 : T' s (j + 1) = T s (j + 1))
    (aN : fN' (s * 128 + j) = fN (s * 128 + j)) (aX : fX' (s * 128 + j) = fX (s * 128 + j)) (aS : fS' (s * 128 + j) = fS (s * 128 + j)) (aT : fT' (s * 128 + j) = fT (s * 128 + j)) (aL : ∀ q, q < 3 → fL' ((s * 128 + j) * 4 + q) = fL ((s * 128 + j) * 4 + q))
    (bl : yl' (cy_ K s j) = yl (cy_ K s j)) (ba : ya' (cy_ K s j) = ya (cy_ K s j)) (be : ye' (cy_ K s j) = ye (cy_ K s j)) (bk : ∀ q, q < 3 → yk' (3 * cy_ K s j + q) = yk (3 * cy_ K s j + q)) :
    (cf_FX N oc pc E lv kd a b SC F' C' V' D' K' T' fN' fX' fS' fT' fL' yl' ya' ye' yk' s j) := by
  obtain ⟨n, i, e, ⟨⟨g1, g2, g3, g4⟩, ⟨g5, g6, g7⟩, ⟨g8, g9, g10⟩, g11, g12, g13⟩, hn, ht⟩ := h
  have hy : cy_ K' s j = cy_ K s j := by unfold cy_; rw [hK1]
  refine ⟨n, i, e, ⟨⟨g1, g2, g3, by omega⟩, ⟨?_, ?_, ?_⟩, ⟨?_, ?_, ?_⟩, fun c hc => hD e g4 c (g11 c hc), ?_, ?_⟩, ?_, ?_⟩
  · rw [aN]; exact g5
  · rw [aT]; exact g6
  · rw [aS]; exact g7
  · rw [hy, bl]; exact g8
  · rw [hy, ba]; exact g9
  · rw [hy, be]; exact g10
  · rw [hy]; exact cf_S_go g12 hF hC aL bk
  · rw [hK0, hK1]; exact g13
  · rw [aX]; exact hn
  · rw [hT0, hT1]; exact ht
theorem cf_K1 {j : Nat} (h : (cf_FX N oc pc E lv kd a b SC F C V D K T fN fX fS fT fL yl ya ye yk s j)) : K s j ≤ K s (j + 1) := by
  obtain ⟨n, i, e, ⟨_, _, _, _, _, g, _⟩, _⟩ := h
  omega
theorem cf_T1 {j : Nat} (h : (cf_FX N oc pc E lv kd a b SC F C V D K T fN fX fS fT fL yl ya ye yk s j)) : T s j + 3 ≤ T s (j + 1) := by
  obtain ⟨n, i, e, _, _, ht⟩ := h
  omega
theorem cf_Kle (h1 : (cf_FR N oc pc E lv kd a b SC F C V D K T fN fX fS fT fL yl ya ye yk s h)) : ∀ d j, j + d = h → K s j ≤ K s h := by
  intro d
  induction d with
  | zero => intro j hj; rw [show j = h by omega]; exact Nat.le_refl _
  | succ d ih =>
    intro j hj
    exact Nat.le_trans (cf_K1 (h1 j (by omega))) (ih (j + 1) (by omega))
theorem cf_Tle (h1 : (cf_FR N oc pc E lv kd a b SC F C V D K T fN fX fS fT fL yl ya ye yk s h)) : ∀ d j, j + d = h → T s j ≤ T s h := by
  intro d
  induction d with
  | zero => intro j hj; rw [show j = h by omega]; exact Nat.le_refl _
  | succ d ih =>
    intro j hj
    have := cf_T1 (h1 j (by omega))
    have := ih (j + 1) (by omega)
    omega
/-- where a waiting frame can lie -/
theorem cf_bd {j : Nat} (ht : (ct_all op a b fi nx pa N oc pc E lv kd SC)) (h : (cf_FX N oc pc E lv kd a b SC F C V D K T fN fX fS fT fL yl ya ye yk s j)) (hK : K s (j + 1) ≤ 6) : j + 1 + K s (j + 1) ≤ 112 + cz_ s ∧ j < 107 ∧ cz_ s ≤ K s (j + 1) := by
  obtain ⟨n, i, e, ⟨⟨g1, g2, _, _⟩, _, _, _, _, _, g3, g4⟩, _⟩ := h
  have hl := (ht.2.2.2.2 n g1).2.2.2.1.2 (by omega)
  have hz : cz_ s ≤ 1 := by unfold cz_; split <;> omega
  omega
theorem cf_FR_go (ht : (ct_all op a b fi nx pa N oc pc E lv kd SC)) (h1 : (cf_FR N oc pc E lv kd a b SC F C V D K T fN fX fS fT fL yl ya ye yk s h)) (hK : K s h ≤ 6) (hF : F ≤ F') (hC : C ≤ C') (hV : V ≤ V') (hD : ∀ e, e ≤ V → ∀ c, D e c → D' e c) (kK : ∀ j, j ≤ h → K' s j = K s j) (kT : ∀ j, j ≤ h → T' s j = T s j)
    (aN : ∀ i, s * 128 ≤ i → i < s * 128 + h → fN' i = fN i) (aX : ∀ i, s * 128 ≤ i → i < s * 128 + h → fX' i = fX i) (aS : ∀ i, s * 128 ≤ i → i < s * 128 + h → fS' i = fS i) (aT : ∀ i, s * 128 ≤ i → i < s * 128 + h → fT' i = fT i) (aL : ∀ i, s * 128 * 4 ≤ i → i < (s * 128 + h) * 4 → fL' i = fL i)
    (bl : ∀ i, 112 * s ≤ i → i < 112 * s + (h + K s h - cz_ s) → yl' i = yl i) (ba : ∀ i, 112 * s ≤ i → i < 112 * s + (h + K s h - cz_ s) → ya' i = ya i) (be : ∀ i, 112 * s ≤ i → i < 112 * s + (h + K s h - cz_ s) → ye' i = ye i) (bk : ∀ i, 3 * (112 * s) ≤ i → i < 3 * (112 * s + (h + K s h - cz_ s)) → yk' i = yk i) :
    (cf_FR N oc pc E lv kd a b SC F' C' V' D' K' T' fN' fX' fS' fT' fL' yl' ya' ye' yk' s h) := by
  intro j hj
  have k1 := cf_Kle h1 (h - (j + 1)) (j + 1) (by omega)
  obtain ⟨b1, b2, b3⟩ := cf_bd ht (h1 j hj) (by omega)
  have y1 : 112 * s ≤ cy_ K s j := by unfold cy_; omega
  have y2 : cy_ K s j < 112 * s + (h + K s h - cz_ s) := by unfold cy_; omega
  exact cf_FX_go (h1 j hj) hF hC hV hD (kK j (by omega)) (kK (j + 1) (by omega)) (kT j (by omega)) (kT (j + 1) (by omega)) (aN _ (by omega) (by omega)) (aX _ (by omega) (by omega)) (aS _ (by omega) (by omega)) (aT _ (by omega) (by omega)) (fun q hq => aL _ (by omega) (by omega)) (bl _ y1 y2) (ba _ y1 y2) (be _ y1 y2) (fun q hq => bk _ (by omega) (by omega))
end
end
section
section
variable {op a b fi nx pa : Nat → Int32} {N : Nat} {oc pc E lv : Nat → Nat} {kd : Nat → Nat → Nat} {SC : Nat → Int32 → Prop}
variable {F C V : Nat} {D : Nat → Int32 → Prop} {K T : Nat → Nat → Nat} {fN fX fS fT : Nat → Int32} {fL : Nat → Int64} {yl ya ye : Nat → Int32} {yk : Nat → Int64} {P H : Nat → Nat} {dep : Nat} {xh xc yt yc fn fe gn ge vn vo : Nat → Int32} {vv : Nat → Int64} {wn wu : Nat → Int32} {wv : Nat → Int64} {xst xf xr yst yf yr : Nat → Int32} {Q : Nat → Nat} {k s h : Nat}
variable {F' C' V' : Nat} {D' : Nat → Int32 → Prop} {K' T' : Nat → Nat → Nat} {fN' fX' fS' fT' : Nat → Int32} {fL' : Nat → Int64} {yl' ya' ye' : Nat → Int32} {yk' : Nat → Int64} {P' H' : Nat → Nat} {xh' xc' yt' yc' fn' fe' gn' ge' vn' vo' : Nat → Int32} {vv' : Nat → Int64} {wn' wu' : Nat → Int32} {wv' : Nat → Int64}
theorem cz_le (s : Nat) : cz_ s ≤ 1 := by unfold cz_; split <;> omega
theorem cz_0 : cz_ 0 = 0 := rfl
theorem cz_1 {s : Nat} (h : 1 ≤ s) : cz_ s = 1 := if_neg (by omega)
theorem cc_up (h1 : (cc_C N oc pc E lv kd a b SC F C V D K T fN fX fS fT fL yl ya ye yk P H dep xh xc yt yc fn fe gn ge vn vo vv wn wu wv xst xf xr yst yf yr Q k s h)) (h2 : (cf_FX N oc pc E lv kd a b SC F C V D K T fN fX fS fT fL yl ya ye yk s h)) : (cc_C N oc pc E lv kd a b SC F C V D K T fN fX fS fT fL yl ya ye yk P H dep xh xc yt yc fn fe gn ge vn vo vv wn wu wv xst xf xr yst yf yr Q k s (h + 1)) := by
  obtain ⟨g1, g2, g3, g4, g5, g6, g7, g8, g9⟩ := h1
  refine ⟨g1, g2, g3, g4, g5, g6, g7, g8, fun j hj => ?_⟩
  rcases Nat.lt_or_ge j h with hl | hl
  · exact g9 j hl
  · rw [show j = h by omega]; exact h2
theorem cc_dn (h1 : (cc_C N oc pc E lv kd a b SC F C V D K T fN fX fS fT fL yl ya ye yk P H dep xh xc yt yc fn fe gn ge vn vo vv wn wu wv xst xf xr yst yf yr Q k s (h + 1))) : (cc_C N oc pc E lv kd a b SC F C V D K T fN fX fS fT fL yl ya ye yk P H dep xh xc yt yc fn fe gn ge vn vo vv wn wu wv xst xf xr yst yf yr Q k s h) ∧ (cf_FX N oc pc E lv kd a b SC F C V D K T fN fX fS fT fL yl ya ye yk s h) := by
  obtain ⟨g1, g2, g3, g4, g5, g6, g7, g8, g9⟩ := h1
  exact ⟨⟨g1, g2, g3, g4, g5, g6, g7, g8, fun j hj => g9 j (by omega)⟩, g9 h (by omega)⟩
theorem cc_to {m : Nat} (h1 : (cc_C N oc pc E lv kd a b SC F C V D K T fN fX fS fT fL yl ya ye yk P H dep xh xc yt yc fn fe gn ge vn vo vv wn wu wv xst xf xr yst yf yr Q k s h)) (hm : m ≤ h) : (cc_C N oc pc E lv kd a b SC F C V D K T fN fX fS fT fL yl ya ye yk P H dep xh xc yt yc fn fe gn ge vn vo vv wn wu wv xst xf xr yst yf yr Q k s m) := by
  obtain ⟨g1, g2, g3, g4, g5, g6, g7, g8, g9⟩ := h1
  exact ⟨g1, g2, g3, g4, g5, g6, g7, g8, fun j hj => g9 j (by omega)⟩
theorem cc_s (h1 : (cc_C N oc pc E lv kd a b SC F C V D K T fN fX fS fT fL yl ya ye yk P H dep xh xc yt yc fn fe gn ge vn vo vv wn wu wv xst xf xr yst yf yr Q k s h)) : s ≤ C ∧ s < 7 := by
  obtain ⟨g1, _, _, _, g5, _⟩ := h1
  rcases Nat.eq_zero_or_pos k with hk | hk
  · have := g5.1
    rw [← hk, g1.2.2.2.2.2] at this
    omega
  · have := g5.2.2.1 k hk (Nat.le_refl _)
    rw [g1.2.2.2.2.2] at this
    omega
theorem cs_S_go {r : Nat} (ht : (ct_all op a b fi nx pa N oc pc E lv kd SC)) (h1 : (cs_S N oc pc E lv kd a b SC F C V D K T fN fX fS fT fL yl ya ye yk P H dep xh xc yt yc r)) (hr : r ≠ s) (hd : dep ≤ 6) (hF : F ≤ F') (hC : C ≤ C') (hV : V ≤ V') (hD : ∀ e, e ≤ V → ∀ c, D e c → D' e c) (kK : K' r = K r) (kT : T' r = T r)
    (aN : ca_ (s * 128) (s * 128 + 128) fN fN') (aX : ca_ (s * 128) (s * 128 + 128) fX fX') (aS : ca_ (s * 128) (s * 128 + 128) fS fS') (aT : ca_ (s * 128) (s * 128 + 128) fT fT') (aL : ca_ (s * 128 * 4) ((s * 128 + 128) * 4) fL fL')
    (bl : ca_ (112 * s) (112 * s + 112) yl yl') (ba : ca_ (112 * s) (112 * s + 112) ya ya') (be : ca_ (112 * s) (112 * s + 112) ye ye') (bk : ca_ (3 * (112 * s)) (3 * (112 * s + 112)) yk yk')
    (cP : P' r = P r) (cH : H' r = H r) (c1 : xh' r = xh r) (c2 : xc' r = xc r) (c3 : yt' r = yt r) (c4 : yc' r = yc r) :
    (cs_S N oc pc E lv kd a b SC F' C' V' D' K' T' fN' fX' fS' fT' fL' yl' ya' ye' yk' P' H' dep xh' xc' yt' yc' r) := by
  obtain ⟨h2, ⟨e1, e2, e3, e4, e4'⟩, ⟨e5, e6, e7, e8⟩, n, e9, e10, e11⟩ := h1
  unfold cs_S
  rw [kK, kT, cP, cH, c1, c2, c3, c4]
  have hh : H r < 128 := by
    rcases Nat.eq_zero_or_pos (H r) with hz | hz
    · omega
    · have k1 := cf_Kle h2 (H r - (H r - 1 + 1)) (H r - 1 + 1) (by omega)
      have := (cf_bd ht (h2 (H r - 1) (by omega)) (by omega)).2.1
      omega
  refine ⟨cf_FR_go ht h2 (by omega) hF hC hV hD (fun j _ => by rw [kK]) (fun j _ => by rw [kT]) (fun i h3 h4 => aN i (by omega)) (fun i h3 h4 => aX i (by omega)) (fun i h3 h4 => aS i (by omega)) (fun i h3 h4 => aT i (by omega)) (fun i h3 h4 => aL i (by omega)) (fun i h3 h4 => bl i (by omega)) (fun i h3 h4 => ba i (by omega)) (fun i h3 h4 => be i (by omega)) (fun i h3 h4 => bk i (by omega)), ⟨e1, e2, e3, e4, e4'⟩, ⟨e5, e6, e7, e8⟩, n, e9, e10, ?_⟩
  rw [bl _ (by omega)]
  exact e11
theorem cd_V_F (h : (cd_V F C V D vn vo vv wn wu wv)) (hF : F ≤ F') (hC : C ≤ C') : (cd_V F' C' V D vn vo vv wn wu wv) := ⟨h.1, fun v hv => ⟨(h.2 v hv).1, cv_mono hF hC (h.2 v hv).2.1, (h.2 v hv).2.2⟩⟩
theorem cd_F_V (h : (cd_F N oc SC F C V D fn fe gn ge)) (hV : V ≤ V') (hD : ∀ e, e ≤ V → ∀ c, D e c → D' e c) : (cd_F N oc SC F C' V' D' fn fe gn ge) := by
  intro f hf
  obtain ⟨n, e, g1, g2, g3, g4, g5, g6, g7, g8⟩ := h f hf
  exact ⟨n, e, g1, g2, by omega, g4, g5, g6, g7, fun c hc => hD e g3 c (g8 c hc)⟩
theorem cs_C_go {r : Nat} (h1 : (cs_C N oc pc E lv kd a b SC F C V D K T fN fX fS fT fL yl ya ye yk P H dep xh xc yt yc fn xst xf yst yf r)) (hF : F ≤ F') (gf : ∀ f, f < F → fn' f = fn f) (hS : (cs_S N oc pc E lv kd a b SC F C V D K T fN fX fS fT fL yl ya ye yk P H dep xh xc yt yc r) → (cs_S N oc pc E lv kd a b SC F' C' V' D' K' T' fN' fX' fS' fT' fL' yl' ya' ye' yk' P' H' dep xh' xc' yt' yc' r))
    (c1 : xh' r = xh r) (c2 : xc' r = xc r) (c3 : yt' r = yt r) (c4 : yc' r = yc r) :
    (cs_C N oc pc E lv kd a b SC F' C' V' D' K' T' fN' fX' fS' fT' fL' yl' ya' ye' yk' P' H' dep xh' xc' yt' yc' fn' xst xf yst yf r) := by
  obtain ⟨g1, ⟨f, n, q, e1, e2, e3, e4, e5, e6⟩, g3⟩ := h1
  refine ⟨g1, ⟨f, n, q, by omega, e2, e3, (gf f e1).trans e4, e5, e6⟩, fun hx => ?_⟩
  rcases g3 hx with g | g
  · exact Or.inl (by rw [c1, c2, c3, c4]; exact g)
  · exact Or.inr (hS g)
/-- what the active strand has above its h waiting frames may change, and more variables and functions may come -/
theorem cc_go (ht : (ct_all op a b fi nx pa N oc pc E lv kd SC)) (h1 : (cc_C N oc pc E lv kd a b SC F C V D K T fN fX fS fT fL yl ya ye yk P H dep xh xc yt yc fn fe gn ge vn vo vv wn wu wv xst xf xr yst yf yr Q k s h)) (hK : K s h ≤ 6) (hh : h ≤ 128) (hF : F ≤ F') (hF4 : F' ≤ 40) (hV : V ≤ V') (hV2 : V' ≤ 120) (hD : ∀ e, e ≤ V → ∀ c, D e c → D' e c)
    (nV : (cd_V F' C V' D' vn' vo' vv' wn' wu' wv')) (nF : (cd_F N oc SC F' C V' D' fn' fe' gn' ge')) (gf : ∀ f, f < F → fn' f = fn f)
    (kK : ∀ r j, (r ≠ s ∨ j ≤ h) → K' r j = K r j) (kT : ∀ r j, (r ≠ s ∨ j ≤ h) → T' r j = T r j)
    (aN : ca_ (s * 128 + h) (s * 128 + 128) fN fN') (aX : ca_ (s * 128 + h) (s * 128 + 128) fX fX') (aS : ca_ (s * 128 + h) (s * 128 + 128) fS fS') (aT : ca_ (s * 128 + h) (s * 128 + 128) fT fT') (aL : ca_ ((s * 128 + h) * 4) ((s * 128 + 128) * 4) fL fL')
    (bl : ca_ (112 * s + (h + K s h - cz_ s)) (112 * s + 112) yl yl') (ba : ca_ (112 * s + (h + K s h - cz_ s)) (112 * s + 112) ya ya') (be : ca_ (112 * s + (h + K s h - cz_ s)) (112 * s + 112) ye ye') (bk : ca_ (3 * (112 * s + (h + K s h - cz_ s))) (3 * (112 * s + 112)) yk yk')
    (cP : ca_ s (s + 1) P P') (cH : ca_ s (s + 1) H H') (c1 : ca_ s (s + 1) xh xh') (c2 : ca_ s (s + 1) xc xc') (c3 : ca_ s (s + 1) yt yt') (c4 : ca_ s (s + 1) yc yc') :
    (cc_C N oc pc E lv kd a b SC F' C V' D' K' T' fN' fX' fS' fT' fL' yl' ya' ye' yk' P' H' dep xh' xc' yt' yc' fn' fe' gn' ge' vn' vo' vv' wn' wu' wv' xst xf xr yst yf yr Q k s h) := by
  have hs := cc_s h1
  obtain ⟨⟨g1, g2, g3, g4, g5, g6⟩, gK, _, _, gQ, gS, gC, gZ, gF⟩ := h1
  have S1 : ∀ r, r ≠ s → (cs_S N oc pc E lv kd a b SC F C V D K T fN fX fS fT fL yl ya ye yk P H dep xh xc yt yc r) → (cs_S N oc pc E lv kd a b SC F' C V' D' K' T' fN' fX' fS' fT' fL' yl' ya' ye' yk' P' H' dep xh' xc' yt' yc' r) := fun r hr hS =>
    cs_S_go ht hS hr g4 hF (Nat.le_refl _) hV hD (funext fun j => kK r j (Or.inl hr)) (funext fun j => kT r j (Or.inl hr)) (ca_w aN (by omega) (by omega)) (ca_w aX (by omega) (by omega)) (ca_w aS (by omega) (by omega)) (ca_w aT (by omega) (by omega)) (ca_w aL (by omega) (by omega)) (ca_w bl (by omega) (by omega)) (ca_w ba (by omega) (by omega)) (ca_w be (by omega) (by omega)) (ca_w bk (by omega) (by omega)) (cP r (by omega)) (cH r (by omega)) (c1 r (by omega)) (c2 r (by omega)) (c3 r (by omega)) (c4 r (by omega))
  refine ⟨⟨hF4, g2, hV2, g4, g5, g6⟩, fun r => (kK r 0 (Or.inr (Nat.zero_le _))).trans (gK r), nV, nF, gQ, fun i hi => ?_, fun c hc1 hc2 => ?_, fun c hc1 hc2 => ?_, ?_⟩
  · refine S1 (Q i) (fun e => ?_) (gS i hi)
    have := gQ.2.1 i k (by omega) (Nat.le_refl _) (e.trans g6.symm)
    omega
  · by_cases hcs : c = s
    · have hk : 1 ≤ k := by
        rcases Nat.eq_zero_or_pos k with hk | hk
        · have := gQ.1; rw [← hk, g6] at this; omega
        · exact hk
      have hx := (gQ.2.2.1 k hk (Nat.le_refl _)).2.2
      rw [g6, ← hcs] at hx
      obtain ⟨e1, ⟨f, n, q, e2, e3, e4, e5, e6⟩, _⟩ := gC c hc1 hc2
      exact ⟨e1, ⟨f, n, q, by omega, e3, e4, (gf f e2).trans e5, e6⟩, fun h0 => absurd (h0.symm.trans hx) (by decide)⟩
    · exact cs_C_go (gC c hc1 hc2) hF gf (S1 c hcs) (c1 c (by omega)) (c2 c (by omega)) (c3 c (by omega)) (c4 c (by omega))
  · rw [c3 c (by omega), c4 c (by omega)]; exact gZ c hc1 hc2
  · exact cf_FR_go ht gF hK hF (Nat.le_refl _) hV hD (fun j hj => kK s j (Or.inr hj)) (fun j hj => kT s j (Or.inr hj)) (fun i h3 h4 => aN i (by omega)) (fun i h3 h4 => aX i (by omega)) (fun i h3 h4 => aS i (by omega)) (fun i h3 h4 => aT i (by omega)) (fun i h3 h4 => aL i (by omega)) (fun i h3 h4 => bl i (by omega)) (fun i h3 h4 => ba i (by omega)) (fun i h3 h4 => be i (by omega)) (fun i h3 h4 => bk i (by omega))
/-- the same without new variables and functions; what isn't given is found -/
theorem cc_fr (ht : (ct_all op a b fi nx pa N oc pc E lv kd SC)) (h1 : (cc_C N oc pc E lv kd a b SC F C V D K T fN fX fS fT fL yl ya ye yk P H dep xh xc yt yc fn fe gn ge vn vo vv wn wu wv xst xf xr yst yf yr Q k s h)) (hK : K s h ≤ 6) (hh : h ≤ 128)
    (kK : ∀ r j, (r ≠ s ∨ j ≤ h) → K' r j = K r j) (kT : ∀ r j, (r ≠ s ∨ j ≤ h) → T' r j = T r j)
    (aN : ca_ (s * 128 + h) (s * 128 + 128) fN fN') (aX : ca_ (s * 128 + h) (s * 128 + 128) fX fX') (aS : ca_ (s * 128 + h) (s * 128 + 128) fS fS') (aT : ca_ (s * 128 + h) (s * 128 + 128) fT fT') (aL : ca_ ((s * 128 + h) * 4) ((s * 128 + 128) * 4) fL fL')
    (bl : ca_ (112 * s + (h + K s h - cz_ s)) (112 * s + 112) yl yl') (ba : ca_ (112 * s + (h + K s h - cz_ s)) (112 * s + 112) ya ya') (be : ca_ (112 * s + (h + K s h - cz_ s)) (112 * s + 112) ye ye') (bk : ca_ (3 * (112 * s + (h + K s h - cz_ s))) (3 * (112 * s + 112)) yk yk')
    (cP : ca_ s (s + 1) P P') (c1 : ca_ s (s + 1) xh xh') (c2 : ca_ s (s + 1) xc xc') (c3 : ca_ s (s + 1) yt yt') (c4 : ca_ s (s + 1) yc yc') :
    (cc_C N oc pc E lv kd a b SC F C V D K' T' fN' fX' fS' fT' fL' yl' ya' ye' yk' P' H dep xh' xc' yt' yc' fn fe gn ge vn vo vv wn wu wv xst xf xr yst yf yr Q k s h) := by
  have g := h1
  obtain ⟨⟨g1, g2, g3, g4, g5, g6⟩, gK, gV, gF, _⟩ := g
  exact cc_go ht h1 hK hh (Nat.le_refl _) g1 (Nat.le_refl _) g3 (fun _ _ _ h => h) gV gF (fun _ _ => rfl) kK kT aN aX aS aT aL bl ba be bk cP ca_r c1 c2 c3 c4
end
end
section
section
variable {op a b fi nx pa : Nat → Int32} {N : Nat} {oc pc E lv : Nat → Nat} {kd : Nat → Nat → Nat} {SC : Nat → Int32 → Prop}
variable {F C V : Nat} {D : Nat → Int32 → Prop} {K T : Nat → Nat → Nat} {fN fX fS fT : Nat → Int32} {fL : Nat → Int64} {yl ya ye : Nat → Int32} {yk : Nat → Int64} {P H : Nat → Nat} {dep : Nat} {xh xc yt yc fn fe gn ge vn vo : Nat → Int32} {vv : Nat → Int64} {wn wu : Nat → Int32} {wv : Nat → Int64} {xst xf xr yst yf yr : Nat → Int32} {Q : Nat → Nat} {k s h : Nat}
variable {F' C' V' : Nat} {D' : Nat → Int32 → Prop} {K' T' : Nat → Nat → Nat} {fN' fX' fS' fT' : Nat → Int32} {fL' : Nat → Int64} {yl' ya' ye' : Nat → Int32} {yk' : Nat → Int64} {P' H' : Nat → Nat} {xh' xc' yt' yc' fn' fe' gn' ge' vn' vo' : Nat → Int32} {vv' : Nat → Int64} {wn' wu' : Nat → Int32} {wv' : Nat → Int64}
/-- the names of scope V + 1: a new variable before scope e -/
def cd_D (D : Nat → Int32 → Prop) (V e : Nat) (m : Int32) : Nat → Int32 → Prop := fun r c => if r = V + 1 then (m = c ∨ D e c) else D r c
theorem cd_D_old {e r : Nat} {m c : Int32} (hr : r ≤ V) : cd_D D V e m r c ↔ D r c := by
  unfold cd_D; rw [if_neg (by omega)]
theorem cd_D_new {e : Nat} {m c : Int32} : cd_D D V e m (V + 1) c ↔ (m = c ∨ D e c) := by
  unfold cd_D; rw [if_pos rfl]
theorem cd_D_up {e : Nat} {m : Int32} : ∀ r, r ≤ V → ∀ c, D r c → cd_D D V e m r c := fun _ hr _ h => (cd_D_old hr).mpr h
theorem cd_V_new {e : Nat} {m : Int32} {x y : Int64} (h : (cd_V F C V D vn vo vv wn wu wv)) (he : e ≤ V) (hv : cv_R F C x y) :
    (cd_V F C (V + 1) (cd_D D V e m) (upd vn (V + 1) m) (upd vo (V + 1) (nI e)) (vp_updL vv (V + 1) x) (upd wn V m) (upd wu V (nI e - 1)) (vp_updL wv V y)) := by
  refine ⟨fun c hc => h.1 c ((cd_D_old (Nat.zero_le _)).mp hc), fun v hv' => ?_⟩
  rcases Nat.lt_or_ge v V with hl | hl
  · obtain ⟨h1, h2, o, h3, h4, h5, h6⟩ := h.2 v hl
    rw [pk_un (by omega), pk_un (by omega), pk_uLn (by omega), pk_un (by omega), pk_un (by omega), pk_uLn (by omega)]
    refine ⟨h1, h2, o, h3, h4, h5, fun c hc => ?_⟩
    rw [cd_D_old (by omega)] at hc ⊢
    exact h6 c hc
  · obtain rfl : v = V := by omega
    rw [pk_us, pk_us, pk_uLs, pk_us, pk_us, pk_uLs]
    refine ⟨rfl, hv, e, he, rfl, rfl, fun c hc => ?_⟩
    rw [cd_D_old he]
    exact cd_D_new.mp hc
theorem cd_V_set {p : Nat} {x y : Int64} (h : (cd_V F C V D vn vo vv wn wu wv)) (hp : p < V) (hv : cv_R F C x y) : (cd_V F C V D vn vo (vp_updL vv (p + 1) x) wn wu (vp_updL wv p y)) := by
  refine ⟨h.1, fun v hv' => ?_⟩
  obtain ⟨h1, h2, h3⟩ := h.2 v hv'
  by_cases e : v = p
  · subst e
    rw [pk_uLs, pk_uLs]; exact ⟨h1, hv, h3⟩
  · rw [pk_uLn (by omega), pk_uLn (by omega)]; exact ⟨h1, h2, h3⟩
theorem cd_F_new {n e : Nat} (h : (cd_F N oc SC F C V D fn fe gn ge)) (hn : n < N) (ho : oc n = 10) (he : e ≤ V) (hc : ∀ c, SC n c → D e c) : (cd_F N oc SC (F + 1) C V D (upd fn F (nI n)) (upd fe F (nI e)) (upd gn F (nI n)) (upd ge F (nI e - 1))) := by
  intro f hf
  rcases Nat.lt_or_ge f F with hl | hl
  · rw [pk_un (by omega), pk_un (by omega), pk_un (by omega), pk_un (by omega)]; exact h f hl
  · obtain rfl : f = F := by omega
    rw [pk_us, pk_us, pk_us, pk_us]
    exact ⟨n, e, hn, ho, he, rfl, rfl, rfl, rfl, hc⟩
/-- sums over the strands -/
def sm_ (f : Nat → Nat) : Nat → Nat
  | 0 => 0
  | n + 1 => sm_ f n + f n
theorem sm_eq {f g : Nat → Nat} : ∀ n, (∀ i, i < n → f i = g i) → sm_ f n = sm_ g n := by
  intro n
  induction n with
  | zero => intro _; rfl
  | succ n ih => intro h; show sm_ f n + f n = sm_ g n + g n; rw [ih (fun i hi => h i (by omega)), h n (by omega)]
theorem sm_u {f : Nat → Nat} {s v : Nat} : ∀ n, s < n → sm_ (fun r => if r = s then v else f r) n + f s = sm_ f n + v := by
  intro n
  induction n with
  | zero => intro h; omega
  | succ n ih =>
    intro h
    show sm_ _ n + (if n = s then v else f n) + f s = sm_ f n + f n + v
    by_cases e : n = s
    · subst e
      rw [if_pos rfl, sm_eq (g := f) n (fun i hi => if_neg (by omega))]; omega
    · rw [if_neg e]; have := ih (by omega); omega
theorem sm_le {f : Nat → Nat} {s : Nat} : ∀ n, s < n → f s ≤ sm_ f n := by
  intro n
  induction n with
  | zero => intro h; omega
  | succ n ih =>
    intro h
    show f s ≤ sm_ f n + f n
    by_cases e : n = s
    · subst e; omega
    · have := ih (by omega); omega
theorem sm_0 : ∀ n, sm_ (fun _ => 0) n = 0 := by
  intro n
  induction n with
  | zero => rfl
  | succ n ih => show sm_ _ n + 0 = 0; rw [ih]
/-- a new coroutine -/
theorem cc_new {f n q : Nat} (ht : (ct_all op a b fi nx pa N oc pc E lv kd SC)) (h1 : (cc_C N oc pc E lv kd a b SC F C V D K T fN fX fS fT fL yl ya ye yk P H dep xh xc yt yc fn fe gn ge vn vo vv wn wu wv xst xf xr yst yf yr Q k s h)) (hC : C < 6) (hf : f < F) (hn : fn f = nI n) (hnN : n < N) (hq : b n = nI q) (hq1 : q ≤ 1) :
    (cc_C N oc pc E lv kd a b SC F (C + 1) V D K T fN fX fS fT fL yl ya ye yk P H dep (upd xh (C + 1) 0) (upd xc (C + 1) 0) yt yc fn fe gn ge vn vo vv wn wu wv (upd xst (C + 1) 0) (upd xf (C + 1) (nI f)) xr (upd yst (C + 1) 0) (upd yf (C + 1) (nI f)) yr Q k s h) := by
  have hs := cc_s h1
  obtain ⟨⟨g1, g2, g3, g4, g5, g6⟩, gK, gV, gF, gQ, gS, gC, gZ, gR⟩ := h1
  have M : ∀ r m, (cf_FR N oc pc E lv kd a b SC F C V D K T fN fX fS fT fL yl ya ye yk r m) → (cf_FR N oc pc E lv kd a b SC F (C + 1) V D K T fN fX fS fT fL yl ya ye yk r m) := fun r m h j hj => cf_FX_go (h j hj) (Nat.le_refl _) (Nat.le_succ _) (Nat.le_refl _) (fun _ _ _ h => h) rfl rfl rfl rfl rfl rfl rfl rfl (fun _ _ => rfl) rfl rfl rfl (fun _ _ => rfl)
  have S1 : ∀ r, r ≤ C → (cs_S N oc pc E lv kd a b SC F C V D K T fN fX fS fT fL yl ya ye yk P H dep xh xc yt yc r) → (cs_S N oc pc E lv kd a b SC F (C + 1) V D K T fN fX fS fT fL yl ya ye yk P H dep (upd xh (C + 1) 0) (upd xc (C + 1) 0) yt yc r) := by
    intro r hr h
    obtain ⟨h2, h3, h4, h5⟩ := h
    unfold cs_S
    rw [pk_un (by omega), pk_un (by omega)]
    exact ⟨M r (H r) h2, h3, h4, h5⟩
  have qC : ∀ i, i ≤ k → Q i ≤ C := by
    intro i hi
    rcases Nat.eq_zero_or_pos i with h0 | h0
    · rw [h0, gQ.1]; exact Nat.zero_le _
    · exact (gQ.2.2.1 i h0 hi).2.1
  refine ⟨⟨g1, by omega, g3, g4, g5, g6⟩, gK, cd_V_F gV (Nat.le_refl _) (Nat.le_succ _), gF, ⟨gQ.1, gQ.2.1, fun i h0 hi => ?_, gQ.2.2.2⟩, fun i hi => S1 _ (qC i (by omega)) (gS i hi), fun c h0 hc => ?_, fun c h0 hc => gZ c (by omega) hc, ?_⟩
  · obtain ⟨e1, e2, e3⟩ := gQ.2.2.1 i h0 hi
    refine ⟨e1, by omega, ?_⟩
    rw [pk_un (by omega)]; exact e3
  · rcases Nat.lt_or_ge c (C + 1) with hl | hl
    · obtain ⟨e1, e2, e3⟩ := gC c h0 (by omega)
      unfold cs_C
      rw [pk_un (by omega), pk_un (by omega), pk_un (by omega), pk_un (by omega), pk_un (by omega), pk_un (by omega)]
      refine ⟨e1, e2, fun hx => ?_⟩
      rcases e3 hx with g | g
      · exact Or.inl g
      · exact Or.inr (S1 c (by omega) g)
    · obtain rfl : c = C + 1 := by omega
      unfold cs_C
      rw [pk_us, pk_us, pk_us, pk_us, pk_us, pk_us]
      refine ⟨⟨0, by omega, rfl, rfl⟩, ⟨f, n, q, hf, rfl, rfl, hn, hnN, hq, hq1⟩, fun _ => Or.inl ⟨rfl, (gZ (C + 1) (by omega) (by omega)).1, rfl, (gZ (C + 1) (by omega) (by omega)).2⟩⟩
  · exact M s h gR
/-- H with the active strand's own height -/
def ch_ (H : Nat → Nat) (s h : Nat) : Nat → Nat := fun r => if r = s then h else H r
theorem ch_s {H : Nat → Nat} {s h : Nat} : ch_ H s h s = h := if_pos rfl
theorem ch_n {H : Nat → Nat} {s h r : Nat} (hr : r ≠ s) : ch_ H s h r = H r := if_neg hr
theorem cs_S_H {r : Nat} (h1 : (cs_S N oc pc E lv kd a b SC F C V D K T fN fX fS fT fL yl ya ye yk P H dep xh xc yt yc r)) (hr : r ≠ s) : (cs_S N oc pc E lv kd a b SC F C V D K T fN fX fS fT fL yl ya ye yk P (ch_ H s h) dep xh xc yt yc r) := by
  unfold cs_S; rw [ch_n hr]; exact h1
/-- the active strand, when it stands still above its frame h -/
theorem cs_S_mk {n : Nat} (h1 : (cc_C N oc pc E lv kd a b SC F C V D K T fN fX fS fT fL yl ya ye yk P H dep xh xc yt yc fn fe gn ge vn vo vv wn wu wv xst xf xr yst yf yr Q k s h)) (e1 : K s h ≤ dep) (e2 : cz_ s ≤ h) (e3 : T s h + 2 ≤ P s) (e4 : h + 1 + K s h ≤ 112 + cz_ s) (e4' : cz_ s ≤ K s h) (e5 : xh s = nI (h + 1)) (e6 : yt s = nI (h + 1 + K s h - cz_ s)) (e7 : xc s = nI (K s h)) (e8 : yc s = nI (K s h)) (e9 : n < N) (e10 : oc n ≠ 10) (e11 : yl (112 * s + (h + K s h - cz_ s)) = nI n) : (cs_S N oc pc E lv kd a b SC F C V D K T fN fX fS fT fL yl ya ye yk P (ch_ H s h) dep xh xc yt yc s) := by
  unfold cs_S; rw [ch_s]
  exact ⟨h1.2.2.2.2.2.2.2.2, ⟨e1, e2, e3, e4, e4'⟩, ⟨e5, e6, e7, e8⟩, n, e9, e10, e11⟩
/-- the active strand s resumes c -/
theorem cc_res {c m : Nat} (h1 : (cc_C N oc pc E lv kd a b SC F C V D K T fN fX fS fT fL yl ya ye yk P H dep xh xc yt yc fn fe gn ge vn vo vv wn wu wv xst xf xr yst yf yr Q k s h)) (hS : (cs_S N oc pc E lv kd a b SC F C V D K T fN fX fS fT fL yl ya ye yk P (ch_ H s h) dep xh xc yt yc s)) (hc1 : 1 ≤ c) (hc : c ≤ C) (h0 : xst c = 0) (hm : (cf_FR N oc pc E lv kd a b SC F C V D K T fN fX fS fT fL yl ya ye yk c m)) :
    (cc_C N oc pc E lv kd a b SC F C V D K T fN fX fS fT fL yl ya ye yk P (ch_ H s h) dep xh xc yt yc fn fe gn ge vn vo vv wn wu wv (upd xst c 1) xf (upd xr c (nI s)) (upd yst c 1) yf (upd yr c (nI s)) (fun i => if i = k + 1 then c else Q i) (k + 1) c m) := by
  have hs := cc_s h1
  obtain ⟨⟨g1, g2, g3, g4, g5, g6⟩, gK, gV, gF, gQ, gS, gC, gZ, gR⟩ := h1
  have nq : ∀ i, i ≤ k → Q i ≠ c := by
    intro i hi e
    rcases Nat.eq_zero_or_pos i with hz | hz
    · have := gQ.1; rw [← hz, e] at this; omega
    · have := (gQ.2.2.1 i hz hi).2.2
      rw [e, h0] at this
      exact absurd this (by decide)
  have hcs : c ≠ s := fun e => nq k (Nat.le_refl _) (by rw [g6, e])
  refine ⟨⟨g1, g2, g3, g4, g5, if_pos rfl⟩, gK, gV, gF, ⟨?_, fun i j hi hj e => ?_, fun i hi1 hi => ?_, fun i hi => ?_⟩, fun i hi => ?_, fun d hd1 hd => ?_, gZ, hm⟩
  · dsimp only; rw [if_neg (by omega)]; exact gQ.1
  · dsimp only at e
    by_cases h3 : i = k + 1
    · by_cases h4 : j = k + 1
      · omega
      · rw [if_pos h3, if_neg h4] at e
        exact absurd e.symm (nq j (by omega))
    · by_cases h4 : j = k + 1
      · rw [if_neg h3, if_pos h4] at e
        exact absurd e (nq i (by omega))
      · rw [if_neg h3, if_neg h4] at e
        exact gQ.2.1 i j (by omega) (by omega) e
  · dsimp only
    by_cases h3 : i = k + 1
    · rw [if_pos h3, pk_us]; exact ⟨hc1, hc, rfl⟩
    · rw [if_neg h3, pk_un (nq i (by omega))]
      exact gQ.2.2.1 i hi1 (by omega)
  · dsimp only
    rw [if_neg (show ¬ i = k + 1 by omega)]
    by_cases h3 : i = k
    · rw [if_pos (show i + 1 = k + 1 by omega), pk_us, pk_us, h3, g6]
      exact ⟨rfl, rfl⟩
    · rw [if_neg (show ¬ i + 1 = k + 1 by omega), pk_un (nq (i + 1) (by omega)), pk_un (nq (i + 1) (by omega))]
      exact gQ.2.2.2 i (by omega)
  · dsimp only
    rw [if_neg (show ¬ i = k + 1 by omega)]
    by_cases h3 : i = k
    · rw [h3, g6]; exact hS
    · refine cs_S_H (gS i (by omega)) (fun e => ?_)
      have := gQ.2.1 i k (by omega) (Nat.le_refl _) (e.trans g6.symm)
      omega
  · obtain ⟨e1, e2, e3⟩ := gC d hd1 hd
    unfold cs_C
    by_cases h3 : d = c
    · subst h3
      rw [pk_us, pk_us]
      exact ⟨⟨1, by omega, rfl, rfl⟩, e2, fun hx => absurd hx (by decide)⟩
    · rw [pk_un h3, pk_un h3]
      refine ⟨e1, e2, fun hx => ?_⟩
      rcases e3 hx with g | g
      · exact Or.inl g
      · by_cases h4 : d = s
        · rw [h4]; exact Or.inr hS
        · exact Or.inr (cs_S_H g h4)
/-- the active strand s gives the turn back to the one that resumed it -/
theorem cc_lv {m w : Nat} (h1 : (cc_C N oc pc E lv kd a b SC F C V D K T fN fX fS fT fL yl ya ye yk P H dep xh xc yt yc fn fe gn ge vn vo vv wn wu wv xst xf xr yst yf yr Q k s h)) (hk : k = m + 1) (hw : w ≤ 2) (hw1 : w ≠ 1) (hS : w = 0 → (cs_S N oc pc E lv kd a b SC F C V D K T fN fX fS fT fL yl ya ye yk P (ch_ H s h) dep xh xc yt yc s)) :
    (cc_C N oc pc E lv kd a b SC F C V D K T fN fX fS fT fL yl ya ye yk P (ch_ H s h) dep xh xc yt yc fn fe gn ge vn vo vv wn wu wv (upd xst s (nI w)) xf xr (upd yst s (nI w)) yf yr Q m (Q m) (H (Q m))) ∧ 1 ≤ s ∧ Q m ≠ s ∧ Q m < 7 ∧ xr s = nI (Q m) ∧ yr s = nI (Q m) ∧ (cs_S N oc pc E lv kd a b SC F C V D K T fN fX fS fT fL yl ya ye yk P H dep xh xc yt yc (Q m)) := by
  have hs := cc_s h1
  obtain ⟨⟨g1, g2, g3, g4, g5, g6⟩, gK, gV, gF, gQ, gS, gC, gZ, gR⟩ := h1
  have hq : ∀ i, i ≤ m → Q i ≠ s := by
    intro i hi e
    have := gQ.2.1 i k (by omega) (Nat.le_refl _) (e.trans g6.symm)
    omega
  have h1s : 1 ≤ s := by
    have := (gQ.2.2.1 k (by omega) (Nat.le_refl _)).1
    rw [g6] at this; exact this
  have hr := gQ.2.2.2 m (by omega)
  rw [← hk, g6] at hr
  have h7 : Q m < 7 := by
    rcases Nat.eq_zero_or_pos m with hz | hz
    · rw [hz, gQ.1]; omega
    · have := (gQ.2.2.1 m hz (by omega)).2.1; omega
  refine ⟨⟨⟨g1, g2, g3, g4, g5, rfl⟩, gK, gV, gF, ⟨gQ.1, fun i j hi hj e => gQ.2.1 i j (by omega) (by omega) e, fun i hi1 hi => ?_, fun i hi => gQ.2.2.2 i (by omega)⟩, fun i hi => cs_S_H (gS i (by omega)) (hq i (by omega)), fun d hd1 hd => ?_, gZ, (gS m (by omega)).1⟩, h1s, hq m (Nat.le_refl _), h7, hr.1, hr.2, gS m (by omega)⟩
  · rw [pk_un (hq i hi)]; exact gQ.2.2.1 i hi1 (by omega)
  · obtain ⟨e1, e2, e3⟩ := gC d hd1 hd
    unfold cs_C
    by_cases h3 : d = s
    · subst h3
      rw [pk_us, pk_us]
      refine ⟨⟨w, hw, rfl, rfl⟩, e2, fun hx => ?_⟩
      refine Or.inr (hS ?_)
      have hx' : nI w = nI 0 := hx
      exact (nI_eq (by omega) (by omega)).mp hx'
    · rw [pk_un h3, pk_un h3]
      refine ⟨e1, e2, fun hx => ?_⟩
      rcases e3 hx with g | g
      · exact Or.inl g
      · exact Or.inr (cs_S_H g h3)
end
end
section
section
variable {op a b fi nx pa : Nat → Int32} {N : Nat} {oc pc E lv : Nat → Nat} {kd : Nat → Nat → Nat} {SC : Nat → Int32 → Prop}
variable {L : Nat} {st : Nat → Nat} {xp xl xo yp : Nat → Int32}
def nu_ {α : Type} (f : Nat → α) (k : Nat) (v : α) : Nat → α := fun j => if j = k then v else f j
theorem nu_s {α : Type} {f : Nat → α} {k : Nat} {v : α} : nu_ f k v k = v := if_pos rfl
theorem nu_n {α : Type} {f : Nat → α} {k j : Nat} {v : α} (h : j ≠ k) : nu_ f k v j = f j := if_neg h
theorem up_comm {f : Nat → Int32} {i j : Nat} {x y : Int32} (h : i ≠ j) : upd (upd f i x) j y = upd (upd f j y) i x := by
  funext q
  unfold upd
  by_cases h1 : q = j
  · rw [if_pos h1, if_neg (by omega), if_pos h1]
  · rw [if_neg h1]
    by_cases h2 : q = i
    · rw [if_pos h2, if_pos h2]
    · rw [if_neg h2, if_neg h2, if_neg h1]
/-- list n, of whose parts q have ended, makes variable c -/
def cb_mk (oc : Nat → Nat) (a b : Nat → Int32) (n q : Nat) (c : Int32) : Prop := (oc n = 8 ∧ 0 < q ∧ a n = c) ∨ (oc n = 10 ∧ a n ≤ c ∧ c < a n + b n)
def cb_q (L : Nat) (st pc : Nat → Nat) (i : Nat) : Nat := if i + 1 < L then pc (st i) - 1 else pc (st i)
/-- c is in scope -/
def cb_sc (L : Nat) (st oc pc : Nat → Nat) (a b : Nat → Int32) (c : Int32) : Prop := ∃ i, i < L ∧ cb_mk oc a b (st i) (cb_q L st pc i) c
def cb_G (L : Nat) (st : Nat → Nat) (N : Nat) (oc pc E lv : Nat → Nat) (kd : Nat → Nat → Nat) (SC : Nat → Int32 → Prop) (op a b fi nx xp xl xo pa yp : Nat → Int32) : Prop :=
  (N ≤ 96 ∧ L ≤ 16 ∧ (0 < L → st 0 = 0) ∧ (0 < N → lv 0 = 1 ∧ ∀ c, ¬ SC 0 c))
  ∧ (∀ i, i < L → st i < N ∧ xo i = nI (st i) ∧ pa (st i) = (if i = 0 then -1 else nI (st (i - 1))) ∧ oc (st i) < 20 ∧ lv (st i) = i + 1 ∧ (∀ j, j < i → st j < st i)
      ∧ (i + 1 < L → 0 < pc (st i) ∧ kd (st i) (pc (st i) - 1) = st (i + 1) ∧ xp (st i) = nI (pc (st i) - 1)) ∧ (∀ c, SC (st i) c ↔ ∃ j, j < i ∧ cb_mk oc a b (st j) (pc (st j) - 1) c))
  ∧ (∀ n, n < N → (ct_nd op a b fi nx pa N oc pc E lv kd SC (fun m => ∀ i, i < L → st i ≠ m) n))
  ∧ (∀ n, n < N → yp n = nI (pc n) ∧ ((∀ i, i + 1 < L → st i ≠ n) → xp n = nI (pc n)) ∧ (0 < pc n → xl n = nI (kd n (pc n - 1))))
  ∧ (∀ i, i + 1 = L → 0 < pc (st i) → ∀ j, j < L → st j ≠ kd (st i) (pc (st i) - 1))
theorem cb_in {l : Nat} (hG : (cb_G L st N oc pc E lv kd SC op a b fi nx xp xl xo pa yp)) (hl : l + 1 = L) (c : Int32) : cb_sc L st oc pc a b c ↔ ct_in oc a b SC (st l) (pc (st l)) c := by
  have hs := ((hG.2.1 l (by omega)).2.2.2.2.2.2.2 c)
  constructor
  · intro h
    obtain ⟨i, hi, hm⟩ := h
    by_cases e : i = l
    · subst e
      unfold cb_q at hm; rw [if_neg (by omega)] at hm
      exact Or.inr hm
    · unfold cb_q at hm; rw [if_pos (by omega)] at hm
      exact Or.inl (hs.mpr ⟨i, by omega, hm⟩)
  · intro h
    rcases h with h | h
    · obtain ⟨j, hj, hm⟩ := hs.mp h
      exact ⟨j, by omega, by unfold cb_q; rw [if_pos (by omega)]; exact hm⟩
    · exact ⟨l, by omega, by unfold cb_q; rw [if_neg (by omega)]; exact h⟩
/-- the kids of a list rise -/
theorem ct_rise {n : Nat} {cl : Nat → Prop} (hA : ∀ m, m < N → (ct_nd op a b fi nx pa N oc pc E lv kd SC cl m)) (hn : n < N) : ∀ d i, i + d + 1 < pc n → kd n i < kd n (i + d + 1) := by
  have h := hA n hn
  have st1 : ∀ i, i + 1 < pc n → kd n i < kd n (i + 1) := by
    intro i hi
    obtain ⟨_, e2, _, _, e5, _⟩ := h.2.2.2.2.2.1 i (by omega)
    obtain ⟨_, f1, f2⟩ := e5 hi
    have := ((hA _ e2).2.2.2.2.2.2 f2).2.1
    omega
  intro d
  induction d with
  | zero => intro i hi; exact st1 i hi
  | succ d ih =>
    intro i hi
    have h1 := ih i (by omega)
    have h2 := st1 (i + d + 1) (by omega)
    rw [show i + (d + 1) + 1 = i + d + 1 + 1 by omega]
    omega
/-- a node is added below list l -/
theorem ct_add {l o : Nat} {av bv : Int32} {S : Int32 → Prop} {cl cl' : Nat → Prop} {fi' nx' : Nat → Int32} {w : Nat} (hN : N < 96) (hA : ∀ n, n < N → (ct_nd op a b fi nx pa N oc pc E lv kd SC cl n)) (hl : l < N) (hcl : ∀ m, m < N → (cl' m ↔ cl m)) (hlo : ¬ cl l) (hk : ∀ i, i < pc l → cl (kd l i)) (hp : pc l < ct_mx (oc l)) (ho : o ≤ 21)
    (h10 : o = 10 → ∃ p q, av = nI p ∧ bv = nI q ∧ q ≤ 3 ∧ p + q ≤ 8) (hS : (o = 21 ∨ o = 9) → S av) (hlv : o < 20 → lv l + 1 ≤ 16) (hS2 : ∀ c, S c → ct_in oc a b SC l (pc l) c) (hcN : cl' N → ct_mn o = 0 ∧ w = N + 1)
    (hf : fi' = upd (if pc l = 0 then upd fi l (nI N) else fi) N (-1)) (hx : nx' = upd (if pc l = 0 then nx else upd nx (kd l (pc l - 1)) (nI N)) N (-1)) :
    ∀ n, n < N + 1 → (ct_nd (upd op N (nI o)) (upd a N av) (upd b N bv) fi' nx' (upd pa N (nI l)) (N + 1) (nu_ oc N o) (nu_ (nu_ pc N 0) l (pc l + 1)) (nu_ E N w) (nu_ lv N (lv l + 1)) (nu_ kd l (nu_ (kd l) (pc l) N)) (nu_ SC N S) cl' n) := by
  intro n hn
  have kn : ∀ n i, n < N → i < pc n → kd n i < N := fun n i hn hi => ((hA n hn).2.2.2.2.2.1 i hi).2.1
  have inn : ∀ n i c, n < N → ct_in oc a b SC n i c → ct_in (nu_ oc N o) (upd a N av) (upd b N bv) (nu_ SC N S) n i c := by
    intro n i c hn h
    unfold ct_in
    rw [nu_n (by omega), nu_n (by omega), pk_un (by omega), pk_un (by omega)]
    exact h
  have nxo : ∀ m, m < N → (0 < pc l → m ≠ kd l (pc l - 1)) → nx' m = nx m := by
    intro m hm h
    rw [hx, pk_un (by omega)]
    split
    · rfl
    · exact pk_un (h (by omega))
  rcases Nat.lt_or_ge n N with hnN | hnN
  · obtain ⟨⟨g1, g2, g3, g4⟩, g5, g6, ⟨g7, g8⟩, ⟨g9, g10⟩, g11, g12⟩ := hA n hnN
    by_cases hnl : n = l
    · subst hnl
      unfold ct_nd
      rw [nu_n (show n ≠ N by omega), nu_n (show n ≠ N by omega), nu_n (show n ≠ N by omega), nu_n (show n ≠ N by omega), pk_un (show n ≠ N by omega), pk_un (show n ≠ N by omega), pk_un (show n ≠ N by omega), nu_s, nu_s]
      refine ⟨⟨g1, g2, by omega, by omega⟩, g5, g6, ⟨g7, g8⟩, ⟨fun h => by omega, fun _ => ?_⟩, fun i hi => ?_, fun h => absurd ((hcl n hnN).mp h) hlo⟩
      · rw [hf, pk_un (by omega)]
        by_cases h0 : pc n = 0
        · rw [if_pos h0, pk_us, h0, nu_s]
        · rw [if_neg h0, nu_n (by omega)]; exact g10 (by omega)
      · rcases Nat.lt_or_ge i (pc n) with hi2 | hi2
        · obtain ⟨e1, e2, e3, e4, e5, e6, e7⟩ := g11 i hi2
          rw [nu_n (show i ≠ pc n by omega), nu_n (show kd n i ≠ N by omega), nu_n (show kd n i ≠ N by omega), nu_n (show kd n i ≠ N by omega), pk_un (show kd n i ≠ N by omega)]
          refine ⟨e1, by omega, e3, e4, fun _ => ?_, fun h => by omega, fun c hc => inn n i c hnN (e7 c hc)⟩
          have hc := hk i hi2
          rcases Nat.lt_or_ge (i + 1) (pc n) with h3 | h3
          · rw [nu_n (show i + 1 ≠ pc n by omega)]
            obtain ⟨f1, f2, f3⟩ := e5 h3
            refine ⟨?_, f2, (hcl _ e2).mpr f3⟩
            rw [nxo _ e2 (fun _ => ?_)]
            · exact f1
            · have := ct_rise hA hnN (pc n - 1 - i - 1) i (by omega)
              rw [show i + (pc n - 1 - i - 1) + 1 = pc n - 1 by omega] at this
              omega
          · rw [show i + 1 = pc n by omega, nu_s]
            refine ⟨?_, ((hA _ e2).2.2.2.2.2.2 hc).2.2.1, (hcl _ e2).mpr hc⟩
            rw [hx, pk_un (by omega), if_neg (by omega), show pc n - 1 = i by omega, pk_us]
        · rw [show i = pc n by omega, nu_s, nu_s, nu_s, pk_us]
          refine ⟨by omega, by omega, rfl, rfl, fun h => by omega, fun _ => ?_, fun c hc => inn n _ c hnN (hS2 c (by rw [nu_s] at hc; exact hc))⟩
          rw [hx, pk_us]
    · unfold ct_nd
      rw [nu_n (show n ≠ N by omega), nu_n (show n ≠ N by omega), nu_n (show n ≠ N by omega), nu_n (show n ≠ N by omega), pk_un (show n ≠ N by omega), pk_un (show n ≠ N by omega), pk_un (show n ≠ N by omega), nu_n hnl, nu_n hnl, nu_n (show n ≠ N by omega)]
      have hfi : fi' n = fi n := by
        rw [hf, pk_un (by omega)]
        split
        · exact pk_un hnl
        · rfl
      rw [hfi]
      refine ⟨⟨g1, g2, g3, by omega⟩, g5, g6, ⟨g7, g8⟩, ⟨g9, g10⟩, fun i hi => ?_, fun h => ?_⟩
      · obtain ⟨e1, e2, e3, e4, e5, e6, e7⟩ := g11 i hi
        rw [nu_n (show kd n i ≠ N by omega), nu_n (show kd n i ≠ N by omega), nu_n (show kd n i ≠ N by omega), pk_un (show kd n i ≠ N by omega)]
        have hne : 0 < pc l → kd n i ≠ kd l (pc l - 1) := by
          intro h0 he
          have := ((hA l hl).2.2.2.2.2.1 (pc l - 1) (by omega)).2.2.1
          rw [← he, e3, nI_eq (by omega) (by omega)] at this
          exact hnl this
        rw [nxo _ e2 hne]
        exact ⟨e1, by omega, e3, e4, fun h => ⟨(e5 h).1, (e5 h).2.1, (hcl _ e2).mpr (e5 h).2.2⟩, e6, fun c hc => inn n i c hnN (e7 c hc)⟩
      · obtain ⟨f1, f2, f3, f4⟩ := g12 ((hcl n hnN).mp h)
        refine ⟨f1, f2, by omega, fun i hi => ?_⟩
        have e2 := kn n i hnN hi
        rw [nu_n (show kd n i ≠ N by omega)]
        exact ⟨(hcl _ e2).mpr (f4 i hi).1, (f4 i hi).2⟩
  · obtain rfl : n = N := by omega
    unfold ct_nd
    rw [nu_s, nu_s, nu_s, nu_s, pk_us, pk_us, pk_us, nu_n (show n ≠ l by omega), nu_n (show n ≠ l by omega), nu_s, hf, pk_us]
    refine ⟨⟨ho, rfl, by omega, by omega⟩, h10, hS, ⟨by omega, hlv⟩, ⟨fun _ => rfl, fun h => by omega⟩, fun i hi => by omega, fun h => ?_⟩
    obtain ⟨f1, f2⟩ := hcN h
    exact ⟨by omega, by omega, by omega, fun i hi => by omega⟩
end
end
section
section
variable {op a b fi nx pa : Nat → Int32} {N : Nat} {oc pc E lv : Nat → Nat} {kd : Nat → Nat → Nat} {SC : Nat → Int32 → Prop}
variable {L : Nat} {st : Nat → Nat} {xp xl xo yp : Nat → Int32}
theorem ct_root {o : Nat} {av bv : Int32} {cl' : Nat → Prop} {w : Nat} (ho : o ≤ 21) (h10 : o = 10 → ∃ p q, av = nI p ∧ bv = nI q ∧ q ≤ 3 ∧ p + q ≤ 8) (hS : o ≠ 21 ∧ o ≠ 9) (hcN : cl' 0 → ct_mn o = 0 ∧ w = 1) :
    ∀ n, n < 1 → (ct_nd (upd op 0 (nI o)) (upd a 0 av) (upd b 0 bv) (upd fi 0 (-1)) (upd nx 0 (-1)) (upd pa 0 (-1)) 1 (nu_ oc 0 o) (nu_ pc 0 0) (nu_ E 0 w) (nu_ lv 0 1) kd (nu_ SC 0 (fun _ => False)) cl' n) := by
  intro n hn
  obtain rfl : n = 0 := by omega
  unfold ct_nd
  rw [nu_s, nu_s, nu_s, nu_s, pk_us, pk_us, pk_us, nu_s, pk_us]
  refine ⟨⟨ho, rfl, by omega, by omega⟩, h10, fun h => by omega, ⟨by omega, fun _ => by omega⟩, ⟨fun _ => rfl, fun h => by omega⟩, fun i hi => by omega, fun h => ?_⟩
  obtain ⟨f1, f2⟩ := hcN h
  exact ⟨by omega, by omega, by omega, fun i hi => by omega⟩
theorem cb_inj {i j : Nat} (hG : (cb_G L st N oc pc E lv kd SC op a b fi nx xp xl xo pa yp)) (hi : i < L) (hj : j < L) (e : st i = st j) : i = j := by
  rcases Nat.lt_trichotomy i j with h | h | h
  · have := (hG.2.1 j hj).2.2.2.2.2.1 i h; omega
  · exact h
  · have := (hG.2.1 i hi).2.2.2.2.2.1 j h; omega
theorem cb_L {N : Nat} (hG : (cb_G L st N oc pc E lv kd SC op a b fi nx xp xl xo pa yp)) (hN : N = 0) : L = 0 := by
  rcases Nat.eq_zero_or_pos L with h | h
  · exact h
  · have := (hG.2.1 0 h).1; omega
/-- all kids of the innermost open list are closed -/
theorem cb_kc {l : Nat} (hG : (cb_G L st N oc pc E lv kd SC op a b fi nx xp xl xo pa yp)) (hl : l + 1 = L) : ∀ i, i < pc (st l) → ∀ j, j < L → st j ≠ kd (st l) i := by
  intro i hi
  have h := hG.2.2.1 (st l) (hG.2.1 l (by omega)).1
  rcases Nat.lt_or_ge (i + 1) (pc (st l)) with h1 | h1
  · exact ((h.2.2.2.2.2.1 i hi).2.2.2.2.1 h1).2.2
  · have := hG.2.2.2.2 l hl (by omega)
    rw [show pc (st l) - 1 = i by omega] at this
    exact this
theorem cb_leaf0 {o : Nat} {av bv : Int32} (hG : (cb_G L st 0 oc pc E lv kd SC op a b fi nx xp xl xo pa yp)) (ho : o = 20) :
    (cb_G L st 1 (nu_ oc 0 o) (nu_ pc 0 0) (nu_ E 0 1) (nu_ lv 0 1) kd (nu_ SC 0 (fun _ => False)) (upd op 0 (nI o)) (upd a 0 av) (upd b 0 bv) (upd fi 0 (-1)) (upd nx 0 (-1)) (upd xp 0 0) xl xo (upd pa 0 (-1)) (upd yp 0 0)) := by
  have hL := cb_L hG rfl
  subst hL
  refine ⟨⟨by omega, by omega, fun h => by omega, fun _ => ⟨nu_s, fun c hc => ?_⟩⟩, fun i hi => by omega, ct_root (by omega) (fun h => by omega) (by omega) (fun _ => ⟨by rw [ho]; rfl, rfl⟩), fun n hn => ?_, fun i hi => by omega⟩
  · rw [nu_s] at hc; exact hc
  · obtain rfl : n = 0 := by omega
    rw [pk_us, nu_s, pk_us]
    exact ⟨rfl, fun _ => rfl, fun h => by omega⟩
theorem cb_open0 {o : Nat} {av bv : Int32} (hG : (cb_G L st 0 oc pc E lv kd SC op a b fi nx xp xl xo pa yp)) (ho : o < 20) (h9 : o ≠ 9) (h10 : o = 10 → ∃ p q, av = nI p ∧ bv = nI q ∧ q ≤ 3 ∧ p + q ≤ 8) :
    (cb_G 1 (nu_ st 0 0) 1 (nu_ oc 0 o) (nu_ pc 0 0) (nu_ E 0 1) (nu_ lv 0 1) kd (nu_ SC 0 (fun _ => False)) (upd op 0 (nI o)) (upd a 0 av) (upd b 0 bv) (upd fi 0 (-1)) (upd nx 0 (-1)) (upd xp 0 0) xl (upd xo 0 0) (upd pa 0 (-1)) (upd yp 0 0)) := by
  have hL := cb_L hG rfl
  subst hL
  refine ⟨⟨by omega, by omega, fun _ => nu_s, fun _ => ⟨nu_s, fun c hc => ?_⟩⟩, fun i hi => ?_, ct_root (by omega) h10 (by omega) (fun h => absurd nu_s (h 0 (by omega))), fun n hn => ?_, fun i hi h0 => ?_⟩
  · rw [nu_s] at hc; exact hc
  · obtain rfl : i = 0 := by omega
    rw [nu_s, pk_us, pk_us, nu_s, nu_s, nu_s]
    refine ⟨by omega, rfl, rfl, by omega, rfl, fun j hj => by omega, fun h => by omega, fun c => ⟨fun h => absurd h id, fun h => ?_⟩⟩
    obtain ⟨j, hj, _⟩ := h
    omega
  · obtain rfl : n = 0 := by omega
    rw [pk_us, nu_s, pk_us]
    exact ⟨rfl, fun _ => rfl, fun h => by omega⟩
  · obtain rfl : i = 0 := by omega
    rw [nu_s, nu_s] at h0
    omega
theorem cb_leaf {l o : Nat} {av bv : Int32} {fi' nx' : Nat → Int32} (hG : (cb_G L st N oc pc E lv kd SC op a b fi nx xp xl xo pa yp)) (hl : l + 1 = L) (hN : N < 96) (hp : pc (st l) < ct_mx (oc (st l))) (ho : o = 20 ∨ o = 21) (hS : o = 21 → cb_sc L st oc pc a b av)
    (hf : fi' = upd (if pc (st l) = 0 then upd fi (st l) (nI N) else fi) N (-1)) (hx : nx' = upd (if pc (st l) = 0 then nx else upd nx (kd (st l) (pc (st l) - 1)) (nI N)) N (-1)) :
    (cb_G L st (N + 1) (nu_ oc N o) (nu_ (nu_ pc N 0) (st l) (pc (st l) + 1)) (nu_ E N (N + 1)) (nu_ lv N (lv (st l) + 1)) (nu_ kd (st l) (nu_ (kd (st l)) (pc (st l)) N)) (nu_ SC N (cb_sc L st oc pc a b)) (upd op N (nI o)) (upd a N av) (upd b N bv) fi' nx' (upd (upd xp N 0) (st l) (nI (pc (st l) + 1))) (upd xl (st l) (nI N)) xo (upd pa N (nI (st l))) (upd (upd yp N 0) (st l) (nI (pc (st l) + 1)))) := by
  have hlN := (hG.2.1 l (by omega)).1
  have ne : ∀ i, i < L → st i ≠ N := fun i hi => by have := (hG.2.1 i hi).1; omega
  have nl : ∀ i, i < l → st i ≠ st l := fun i hi e => by have := cb_inj hG (by omega) (by omega) e; omega
  have hadd := ct_add (o := o) (cl' := fun m => ∀ i, i < L → st i ≠ m) (w := N + 1) hN hG.2.2.1 hlN (fun _ _ => Iff.rfl) (fun h => h l (by omega) rfl) (cb_kc hG hl) hp (by omega) (fun h => by omega) (fun h => hS (by omega)) (fun h => by omega) (fun c hc => (cb_in hG hl c).mp hc) (fun _ => ⟨by rcases ho with h | h <;> rw [h] <;> rfl, rfl⟩) hf hx (av := av) (bv := bv) (S := cb_sc L st oc pc a b)
  obtain ⟨⟨g1, g2, g3, g4⟩, g5, _, g6, g7⟩ := hG
  refine ⟨⟨by omega, g2, g3, fun _ => ?_⟩, fun i hi => ?_, hadd, fun n hn => ?_, fun i hi h0 j hj => ?_⟩
  · rw [nu_n (show 0 ≠ N by omega), nu_n (show 0 ≠ N by omega)]; exact g4 (by omega)
  · obtain ⟨e1, e2, e3, e4, e5, e6, e7, e8⟩ := g5 i hi
    rw [pk_un (ne i hi), nu_n (ne i hi), nu_n (ne i hi), nu_n (ne i hi)]
    refine ⟨by omega, e2, e3, e4, e5, e6, fun h => ?_, fun c => (e8 c).trans ⟨fun h => ?_, fun h => ?_⟩⟩
    · rw [nu_n (nl i (by omega)), nu_n (nl i (by omega)), nu_n (ne i hi), pk_un (nl i (by omega)), pk_un (ne i hi)]
      exact e7 h
    · obtain ⟨j, hj, hm⟩ := h
      refine ⟨j, hj, ?_⟩
      unfold cb_mk
      rw [nu_n (ne j (by omega)), pk_un (ne j (by omega)), pk_un (ne j (by omega)), nu_n (nl j (by omega)), nu_n (ne j (by omega))]
      exact hm
    · obtain ⟨j, hj, hm⟩ := h
      refine ⟨j, hj, ?_⟩
      unfold cb_mk at hm
      rw [nu_n (ne j (by omega)), pk_un (ne j (by omega)), pk_un (ne j (by omega)), nu_n (nl j (by omega)), nu_n (ne j (by omega))] at hm
      exact hm
  · by_cases h1 : n = st l
    · subst h1
      rw [pk_us, nu_s, pk_us, pk_us, nu_s]
      refine ⟨rfl, fun _ => rfl, fun _ => ?_⟩
      rw [Nat.add_sub_cancel, nu_s]
    · rw [pk_un h1, nu_n h1, pk_un h1, pk_un h1, nu_n h1]
      by_cases h2 : n = N
      · subst h2
        rw [pk_us, nu_s, pk_us]
        exact ⟨rfl, fun _ => rfl, fun h => by omega⟩
      · rw [pk_un h2, nu_n h2, pk_un h2]
        exact g6 n (by omega)
  · obtain rfl : i = l := by omega
    rw [nu_s, nu_s, Nat.add_sub_cancel, nu_s]
    exact ne j hj
theorem cb_open {l o : Nat} {av bv : Int32} {fi' nx' : Nat → Int32} (hG : (cb_G L st N oc pc E lv kd SC op a b fi nx xp xl xo pa yp)) (hl : l + 1 = L) (hN : N < 96) (hL : L < 16) (hp : pc (st l) < ct_mx (oc (st l))) (ho : o < 20) (h10 : o = 10 → ∃ p q, av = nI p ∧ bv = nI q ∧ q ≤ 3 ∧ p + q ≤ 8) (hS : o = 9 → cb_sc L st oc pc a b av)
    (hf : fi' = upd (if pc (st l) = 0 then upd fi (st l) (nI N) else fi) N (-1)) (hx : nx' = upd (if pc (st l) = 0 then nx else upd nx (kd (st l) (pc (st l) - 1)) (nI N)) N (-1)) :
    (cb_G (L + 1) (nu_ st L N) (N + 1) (nu_ oc N o) (nu_ (nu_ pc N 0) (st l) (pc (st l) + 1)) (nu_ E N (N + 1)) (nu_ lv N (lv (st l) + 1)) (nu_ kd (st l) (nu_ (kd (st l)) (pc (st l)) N)) (nu_ SC N (cb_sc L st oc pc a b)) (upd op N (nI o)) (upd a N av) (upd b N bv) fi' nx' (upd xp N 0) (upd xl (st l) (nI N)) (upd xo L (nI N)) (upd pa N (nI (st l))) (upd (upd yp N 0) (st l) (nI (pc (st l) + 1)))) := by
  have hlN := (hG.2.1 l (by omega)).1
  have ne : ∀ i, i < L → st i ≠ N := fun i hi => by have := (hG.2.1 i hi).1; omega
  have nl : ∀ i, i < l → st i ≠ st l := fun i hi e => by have := cb_inj hG (by omega) (by omega) e; omega
  have hadd := ct_add (o := o) (cl' := fun m => ∀ i, i < L + 1 → nu_ st L N i ≠ m) (w := N + 1) hN hG.2.2.1 hlN (fun m hm => ⟨fun h i hi => by have := h i (by omega); rw [nu_n (by omega)] at this; exact this, fun h i hi => by
    by_cases e : i = L
    · rw [e, nu_s]; omega
    · rw [nu_n e]; exact h i (by omega)⟩) (fun h => h l (by omega) rfl) (cb_kc hG hl) hp (by omega) h10 (fun h => hS (by omega)) (fun _ => by have := (hG.2.1 l (by omega)).2.2.2.2.1; omega) (fun c hc => (cb_in hG hl c).mp hc) (fun h => absurd nu_s (h L (by omega))) hf hx (av := av) (bv := bv) (S := cb_sc L st oc pc a b)
  obtain ⟨⟨g1, g2, g3, g4⟩, g5, _, g6, g7⟩ := hG
  refine ⟨⟨by omega, by omega, fun _ => ?_, fun _ => ?_⟩, fun i hi => ?_, hadd, fun n hn => ?_, fun i hi h0 j hj => ?_⟩
  · rw [nu_n (by omega)]; exact g3 (by omega)
  · rw [nu_n (show 0 ≠ N by omega), nu_n (show 0 ≠ N by omega)]; exact g4 (by omega)
  · rcases Nat.lt_or_ge i L with hi2 | hi2
    · obtain ⟨e1, e2, e3, e4, e5, e6, e7, e8⟩ := g5 i hi2
      rw [nu_n (show i ≠ L by omega), pk_un (show i ≠ L by omega), pk_un (ne i hi2), nu_n (ne i hi2), nu_n (ne i hi2), nu_n (ne i hi2)]
      refine ⟨by omega, e2, ?_, e4, e5, fun j hj => ?_, fun h => ?_, fun c => (e8 c).trans ⟨fun h => ?_, fun h => ?_⟩⟩
      · rw [e3]
        by_cases h0 : i = 0
        · rw [if_pos h0, if_pos h0]
        · rw [if_neg h0, if_neg h0, nu_n (by omega)]
      · rw [nu_n (show j ≠ L by omega)]; exact e6 j hj
      · by_cases h1 : i = l
        · subst h1
          rw [nu_s, nu_s, Nat.add_sub_cancel, nu_s, hl, nu_s, pk_un (ne i hi2)]
          exact ⟨by omega, rfl, (g6 (st i) e1).2.1 (fun j hj e => nl j (by omega) e)⟩
        · rw [nu_n (nl i (by omega)), nu_n (nl i (by omega)), nu_n (ne i hi2), nu_n (show i + 1 ≠ L by omega), pk_un (ne i hi2)]
          exact e7 (by omega)
      · obtain ⟨j, hj, hm⟩ := h
        refine ⟨j, hj, ?_⟩
        unfold cb_mk
        rw [nu_n (show j ≠ L by omega), nu_n (ne j (by omega)), pk_un (ne j (by omega)), pk_un (ne j (by omega)), nu_n (nl j (by omega)), nu_n (ne j (by omega))]
        exact hm
      · obtain ⟨j, hj, hm⟩ := h
        refine ⟨j, hj, ?_⟩
        unfold cb_mk at hm
        rw [nu_n (show j ≠ L by omega), nu_n (ne j (by omega)), pk_un (ne j (by omega)), pk_un (ne j (by omega)), nu_n (nl j (by omega)), nu_n (ne j (by omega))] at hm
        exact hm
    · obtain rfl : i = L := by omega
      rw [nu_s, pk_us, pk_us, nu_s, nu_s, nu_s, if_neg (show ¬ i = 0 by omega), nu_n (show i - 1 ≠ i by omega), show i - 1 = l by omega]
      refine ⟨by omega, rfl, rfl, ho, by have := (g5 l (by omega)).2.2.2.2.1; omega, fun j hj => ?_, fun h => by omega, fun c => ⟨fun h => ?_, fun h => ?_⟩⟩
      · rw [nu_n (show j ≠ i by omega)]; exact (g5 j hj).1
      · obtain ⟨j, hj, hm⟩ := h
        refine ⟨j, hj, ?_⟩
        unfold cb_mk
        rw [nu_n (show j ≠ i by omega), nu_n (ne j hj), pk_un (ne j hj), pk_un (ne j hj)]
        by_cases h1 : j = l
        · subst h1
          rw [nu_s, Nat.add_sub_cancel]
          unfold cb_q at hm; rw [if_neg (by omega)] at hm
          exact hm
        · rw [nu_n (nl j (by omega)), nu_n (ne j hj)]
          unfold cb_q at hm; rw [if_pos (by omega)] at hm
          exact hm
      · obtain ⟨j, hj, hm⟩ := h
        refine ⟨j, hj, ?_⟩
        unfold cb_mk at hm
        rw [nu_n (show j ≠ i by omega), nu_n (ne j hj), pk_un (ne j hj), pk_un (ne j hj)] at hm
        by_cases h1 : j = l
        · subst h1
          rw [nu_s, Nat.add_sub_cancel] at hm
          unfold cb_q; rw [if_neg (by omega)]
          exact hm
        · rw [nu_n (nl j (by omega)), nu_n (ne j hj)] at hm
          unfold cb_q; rw [if_pos (by omega)]
          exact hm
  · by_cases h1 : n = st l
    · subst h1
      rw [pk_us, nu_s, pk_us, nu_s]
      refine ⟨rfl, fun h => absurd (nu_n (show l ≠ L by omega)) (h l (by omega)), fun _ => ?_⟩
      rw [Nat.add_sub_cancel, nu_s]
    · rw [pk_un h1, nu_n h1, pk_un h1, nu_n h1]
      by_cases h2 : n = N
      · subst h2
        rw [pk_us, nu_s, pk_us]
        exact ⟨rfl, fun _ => rfl, fun h => by omega⟩
      · rw [pk_un h2, nu_n h2, pk_un h2]
        obtain ⟨e1, e2, e3⟩ := g6 n (by omega)
        refine ⟨e1, fun h => e2 (fun i hi e => ?_), e3⟩
        have := h i (by omega)
        rw [nu_n (by omega)] at this
        exact this e
  · obtain rfl : i = L := by omega
    rw [nu_s, nu_n (show N ≠ st l by omega), nu_s] at h0
    omega
theorem cb_close {l : Nat} {xp' : Nat → Int32} (hG : (cb_G L st N oc pc E lv kd SC op a b fi nx xp xl xo pa yp)) (hl : l + 1 = L) (hm : ct_mn (oc (st l)) ≤ pc (st l)) (hx : xp' = if l = 0 then xp else upd xp (st (l - 1)) (nI (pc (st (l - 1))))) :
    (cb_G l st N oc pc (nu_ E (st l) N) lv kd SC op a b fi nx xp' xl xo pa yp) := by
  have kc := cb_kc hG hl
  have ij : ∀ i, i < L → st i = st l → i = l := fun i hi e => cb_inj hG hi (by omega) e
  have ij2 : ∀ i, i < L → 0 < l → st i = st (l - 1) → i = l - 1 := fun i hi h0 e => cb_inj hG hi (by omega) e
  obtain ⟨⟨g1, g2, g3, g4⟩, g5, g8, g6, g7⟩ := hG
  have hlN := (g5 l (by omega)).1
  refine ⟨⟨g1, by omega, fun h => g3 (by omega), g4⟩, fun i hi => ?_, fun n hn => ?_, fun n hn => ?_, fun i hi h0 j hj => ?_⟩
  · obtain ⟨e1, e2, e3, e4, e5, e6, e7, e8⟩ := g5 i (by omega)
    refine ⟨e1, e2, e3, e4, e5, e6, fun h => ?_, e8⟩
    obtain ⟨f1, f2, f3⟩ := e7 (by omega)
    refine ⟨f1, f2, ?_⟩
    rw [hx, if_neg (by omega), pk_un (fun e => by have := ij2 i (by omega) (by omega) e; omega)]
    exact f3
  · obtain ⟨h1, h2, h3, h4, h5, h6, h7⟩ := g8 n hn
    refine ⟨h1, h2, h3, h4, h5, fun i hi => ?_, fun hc => ?_⟩
    · obtain ⟨e1, e2, e3, e4, e5, e6, e7⟩ := h6 i hi
      refine ⟨e1, e2, e3, e4, fun h => ?_, e6, e7⟩
      obtain ⟨f1, f2, f3⟩ := e5 h
      refine ⟨f1, ?_, fun j hj => f3 j (by omega)⟩
      rw [nu_n (fun e => f3 l (by omega) e.symm)]; exact f2
    · by_cases hnl : n = st l
      · subst hnl
        rw [nu_s]
        refine ⟨hm, hlN, Nat.le_refl _, fun i hi => ⟨fun j hj => kc i hi j (by omega), ?_⟩⟩
        rw [nu_n (fun e => kc i hi l (by omega) e.symm)]
        exact ((g8 _ (h6 i hi).2.1).2.2.2.2.2.2 (kc i hi)).2.2.1
      · have hc' : ∀ i, i < L → st i ≠ n := by
          intro i hi e
          rcases Nat.lt_or_ge i l with h | h
          · exact hc i h e
          · exact hnl (by rw [← e, show i = l by omega])
        obtain ⟨f1, f2, f3, f4⟩ := h7 hc'
        rw [nu_n hnl]
        refine ⟨f1, f2, f3, fun i hi => ⟨fun j hj => (f4 i hi).1 j (by omega), ?_⟩⟩
        rw [nu_n (fun e => (f4 i hi).1 l (by omega) e.symm)]
        exact (f4 i hi).2
  · obtain ⟨e1, e2, e3⟩ := g6 n hn
    refine ⟨e1, fun h => ?_, e3⟩
    rw [hx]
    by_cases h0 : l = 0
    · rw [if_pos h0]; exact e2 (fun i hi => by omega)
    · rw [if_neg h0]
      by_cases h1 : n = st (l - 1)
      · rw [h1, pk_us]
      · rw [pk_un h1]
        refine e2 (fun i hi e => ?_)
        rcases Nat.lt_or_ge (i + 1) l with h2 | h2
        · exact h i h2 e
        · exact h1 (by rw [← e, show i = l - 1 by omega])
  · obtain rfl : i = l - 1 := by omega
    have := ((g5 (l - 1) (by omega)).2.2.2.2.2.2.1 (by omega)).2.1
    rw [this, show l - 1 + 1 = l by omega]
    intro e
    have := ij j (by omega) e
    omega
end
end
section
section
theorem vo_sx (x : Int32) : x.toInt64.toBitVec.toNat % 4294967296 = cv_n x := by
  have h : x.toInt64.toBitVec = x.toBitVec.signExtend 64 := rfl
  rw [h, BitVec.toNat_signExtend]
  have h2 : (x.toBitVec.setWidth 64).toNat = x.toBitVec.toNat := by
    rw [BitVec.toNat_setWidth]
    exact Nat.mod_eq_of_lt (Nat.lt_trans x.toBitVec.isLt (by decide))
  rw [h2]
  have h3 := cv_n_lt x
  unfold cv_n at h3 ⊢
  split <;> omega
theorem vo_and (x : Int32) : x.toInt64 &&& 4294967295 = lN (cv_n x) := by
  apply wb_inj
  apply BitVec.eq_of_toNat_eq
  rw [Int64.toBitVec_and, BitVec.toNat_and, wb_tn (Nat.lt_trans (cv_n_lt x) (by decide))]
  show x.toInt64.toBitVec.toNat &&& (2 ^ 32 - 1) = _
  rw [Nat.and_two_pow_sub_one_eq_mod]
  exact vo_sx x
theorem vo_s1 : (1 : Int32).toInt64 <<< ((32 : Int32).toInt64 &&& 63) = lN (1 * 4294967296) := by decide
theorem vo_s2 : (2 : Int32).toInt64 <<< ((32 : Int32).toInt64 &&& 63) = lN (2 * 4294967296) := by decide
theorem vo_s3 : (3 : Int32).toInt64 <<< ((32 : Int32).toInt64 &&& 63) = lN (3 * 4294967296) := by decide
theorem vo_1 (x : Int32) : ((1 : Int32).toInt64 <<< ((32 : Int32).toInt64 &&& 63)) ||| (x.toInt64 &&& 4294967295) = lN (cv_n x + 4294967296) := by
  have h := cv_n_lt x
  rw [vo_and, vo_s1, g_or (k := 32) (by decide) h (by omega)]
  exact congrArg lN (by omega)
theorem vo_2 {f : Nat} (hf : f < 100) : ((2 : Int32).toInt64 <<< ((32 : Int32).toInt64 &&& 63)) ||| ((nI f).toInt64 &&& 4294967295) = lN (8589934592 + f) := by
  rw [vo_and, vo_s2, cv_n_nI (by omega), g_or (k := 32) (by decide) (by omega) (by omega)]
theorem vo_3 {c : Nat} (hc : c < 100) : ((3 : Int32).toInt64 <<< ((32 : Int32).toInt64 &&& 63)) ||| ((nI (c + 1)).toInt64 &&& 4294967295) = lN (12884901888 + c + 1) := by
  rw [vo_and, vo_s3, cv_n_nI (by omega), g_or (k := 32) (by decide) (by omega) (by omega)]
  exact congrArg lN (by omega)
theorem vo_k {y : Nat} (hy : y < 12884901901) : ((lN y).toUInt64 >>> ((32 : Int32).toInt64.toUInt64 &&& Int64.toUInt64 63)).toInt64.toInt32 = nI (y / 4294967296) := by
  have h := wb_shr (n := y) (k := 32) (by omega) (by omega)
  have e : (nI 32) = (32 : Int32) := rfl
  rw [e] at h
  rw [h, lN_i]
theorem vo_add {n : Nat} (q : Nat) : nI (q * 4294967296 + n) = nI n := by
  rw [← cv_nI_mod (q * 4294967296 + n), ← cv_nI_mod n]
  exact congrArg nI (by omega)
theorem vo_i1 (n : Nat) : (lN (n + 4294967296)).toInt32 = nI n := by
  rw [lN_i]; exact (congrArg nI (by omega)).trans (vo_add (n := n) 1)
theorem vo_i2 (n : Nat) : (lN (8589934592 + n)).toInt32 = nI n := by
  rw [lN_i]; exact (congrArg nI (by omega)).trans (vo_add (n := n) 2)
theorem vo_i3 (n : Nat) : (lN (12884901888 + n + 1)).toInt32 = nI (n + 1) := by
  rw [lN_i]; exact (congrArg nI (by omega)).trans (vo_add (n := n + 1) 3)
theorem vo_y2 (n : Nat) : (lN (8589934592 + n) - 8589934592).toInt32 = nI n := by
  have h : lN (8589934592 + n) - lN 8589934592 = lN n := by rw [lN_sub (by omega)]; exact congrArg lN (by omega)
  have h2 : lN (8589934592 + n) - 8589934592 = lN n := h
  rw [h2, lN_i]
theorem vo_y3 (n : Nat) : (lN (12884901888 + n) - 12884901888).toInt32 + 1 = nI (n + 1) := by
  have h : lN (12884901888 + n) - lN 12884901888 = lN n := by rw [lN_sub (by omega)]; exact congrArg lN (by omega)
  have h2 : lN (12884901888 + n) - 12884901888 = lN n := h
  rw [h2, lN_i, nI_1]
theorem vo_f {f : Nat} (hf : f < 100) : ((8589934592 : Int64) + (nI (f + 1)).toInt64) - 1 = lN (8589934592 + f) := by
  rw [nI_l (by omega)]
  have h : (lN 8589934592 + lN (f + 1)) - lN 1 = lN (8589934592 + f) := by rw [lN_add, lN_sub (by omega)]; exact congrArg lN (by omega)
  exact h
theorem vo_c {c : Nat} (hc : c < 100) : ((12884901888 : Int64) + (nI (c + 1)).toInt64) - 1 = lN (12884901888 + c) := by
  rw [nI_l (by omega)]
  have h : (lN 12884901888 + lN (c + 1)) - lN 1 = lN (12884901888 + c) := by rw [lN_add, lN_sub (by omega)]; exact congrArg lN (by omega)
  exact h
/-- comparisons of long values with the reference's bounds -/
theorem vo_le {c y : Nat} (hc : c < 12884901901) (hy : y < 12884901901) : lN c ≤ lN y ↔ c ≤ y := pk_lLE (by omega) (by omega)
theorem vo_lt {c y : Nat} (hc : c < 12884901901) (hy : y < 12884901901) : lN y < lN c ↔ y < c := pk_lLT (by omega) (by omega)
theorem vo_eq {c y : Nat} (hc : c < 12884901901) (hy : y < 12884901901) : lN c = lN y ↔ c = y := pk_lEQ (by omega) (by omega)
theorem vo_st {w : Nat} (hw : w < 100) : (nI w).toInt64 = lN (cv_n (nI w)) := by rw [nI_l (by omega), cv_n_nI (by omega)]
end
end
section
section
variable {xd xg xN xL xF xV xC xs ph : Int32} {cr : Int64} {ec en ft bt pr : Int32} {op a b xp fi xl nx xo fn fe vn vo : Nat → Int32} {vv : Nat → Int64} {xst xf xr xh xc fN fX fS fT : Nat → Int32} {fL pv : Nat → Int64}
variable {post : SX → Prop}
theorem nc_ {n : Nat} (h : n < 2147483648) : (nI n).toNatClampNeg = n := nI_clamp h
theorem vi_ {n N : Nat} (h : n < N) (hN : N < 2147483648) : vp_in (nI n) N := vp_in_nI h hN
theorem ix_x (s h : Nat) : (nI s * 128 + nI (h + 1)) - 1 = nI (s * 128 + h) := by
  show (nI s * nI 128 + nI (h + 1)) - nI 1 = _
  rw [pk_mul, nI_add, pk_sub (by omega)]
  exact congrArg nI (by omega)
theorem ix_x0 (s h : Nat) : nI s * 128 + nI h = nI (s * 128 + h) := by
  show nI s * nI 128 + nI h = _
  rw [pk_mul, nI_add]
theorem ix_4 (i : Nat) : nI i * 4 = nI (i * 4) := by
  show nI i * nI 4 = _
  rw [pk_mul]
theorem ix_41 (i : Nat) : nI i * 4 + 1 = nI (i * 4 + 1) := by rw [ix_4, nI_1]
theorem ix_y (s w : Nat) : (112 * nI s + nI (w + 1)) - 1 = nI (112 * s + w) := by
  show (nI 112 * nI s + nI (w + 1)) - nI 1 = _
  rw [pk_mul, nI_add, pk_sub (by omega)]
  exact congrArg nI (by omega)
theorem ix_y0 (s w : Nat) : 112 * nI s + nI w = nI (112 * s + w) := by
  show nI 112 * nI s + nI w = _
  rw [pk_mul, nI_add]
theorem ix_3 (p : Nat) : 3 * nI p = nI (3 * p) := by
  show nI 3 * nI p = _
  rw [pk_mul]
theorem x_finish {s h : Nat} {val : Int64} (hs : s < 7) (hh : xh s = nI (h + 1)) (K : post (xd, xg, xN, xL, xF, xV, xC, (nI s), (-2), val, ec, en, ft, bt, pr, op, a, b, xp, fi, xl, nx, xo, fn, fe, vn, vo, vv, xst, xf, xr, (upd xh s (nI h)), xc, fN, fX, fS, fT, fL, pv)) : wpX_finish post (xd, xg, xN, xL, xF, xV, xC, (nI s), ph, cr, ec, en, ft, bt, pr, op, a, b, xp, fi, xl, nx, xo, fn, fe, vn, vo, vv, xst, xf, xr, xh, xc, fN, fX, fS, fT, fL, pv) val := by
  have e := nc_ (n := s) (by omega)
  have w := vi_ (n := s) (N := 7) hs (by omega)
  exact ⟨w, w, nm_r (e' := upd xh s (nI h)) (by rw [e, hh, nI_pred]) K⟩
theorem x_hb {s r h : Nat} {val : Int64} (hs : s < 7) (hr : r < 7) (hx : xr s = nI r) (hh : xh r = nI (h + 1)) (K : post (xd, xg, xN, xL, xF, xV, xC, (nI r), (-2), val, ec, en, ft, bt, pr, op, a, b, xp, fi, xl, nx, xo, fn, fe, vn, vo, vv, xst, xf, xr, (upd xh r (nI h)), xc, fN, fX, fS, fT, fL, pv)) : wpX_handBack post (xd, xg, xN, xL, xF, xV, xC, (nI s), ph, cr, ec, en, ft, bt, pr, op, a, b, xp, fi, xl, nx, xo, fn, fe, vn, vo, vv, xst, xf, xr, xh, xc, fN, fX, fS, fT, fL, pv) val := by
  have e := nc_ (n := s) (by omega)
  have er := nc_ (n := r) (by omega)
  have w := vi_ (n := s) (N := 7) hs (by omega)
  have wr := vi_ (n := r) (N := 7) hr (by omega)
  exact ⟨w, nm_r (e' := nI r) (by rw [e, hx]) ⟨wr, wr, nm_r (e' := upd xh r (nI h)) (by rw [er, hh, nI_pred]) K⟩⟩
theorem x_raise0 {code nd : Int32} (K : post (xd, xg, xN, xL, xF, xV, xC, (nI 0), 1, cr, code, nd, ft, bt, pr, op, a, b, xp, fi, xl, nx, xo, fn, fe, vn, vo, vv, xst, xf, xr, xh, xc, fN, fX, fS, fT, fL, pv)) : wpX_raise post (xd, xg, xN, xL, xF, xV, xC, (nI 0), ph, cr, ec, en, ft, bt, pr, op, a, b, xp, fi, xl, nx, xo, fn, fe, vn, vo, vv, xst, xf, xr, xh, xc, fN, fX, fS, fT, fL, pv) code nd := br_t rfl K
theorem x_raise1 {s r h : Nat} {code nd : Int32} (h0 : 1 ≤ s) (hs : s < 7) (hr : r < 7) (hx : xr s = nI r) (hh : xh r = nI (h + 1)) (K : post (xd, xg, xN, xL, xF, xV, xC, (nI r), (-2), 0, ec, en, code, bt, pr, op, a, b, xp, fi, xl, nx, xo, fn, fe, vn, vo, vv, (upd xst s 2), xf, xr, (upd xh r (nI h)), xc, fN, fX, fS, fT, fL, pv)) : wpX_raise post (xd, xg, xN, xL, xF, xV, xC, (nI s), ph, cr, ec, en, ft, bt, pr, op, a, b, xp, fi, xl, nx, xo, fn, fe, vn, vo, vv, xst, xf, xr, xh, xc, fN, fX, fS, fT, fL, pv) code nd := by
  have e := nc_ (n := s) (by omega)
  have w := vi_ (n := s) (N := 7) hs (by omega)
  exact br_f (nI_ne0 (by omega) (by omega)) ⟨w, nm_r (e' := upd xst s 2) (by rw [e]) (x_hb hs hr hx hh K)⟩
theorem x_top {s h : Nat} {q : Int32 → Prop} (hs : s < 7) (hh : xh s = nI (h + 1)) (K : q (nI (s * 128 + h))) : wpX_topFrame q (xd, xg, xN, xL, xF, xV, xC, (nI s), ph, cr, ec, en, ft, bt, pr, op, a, b, xp, fi, xl, nx, xo, fn, fe, vn, vo, vv, xst, xf, xr, xh, xc, fN, fX, fS, fT, fL, pv) := by
  have e := nc_ (n := s) (by omega)
  have w := vi_ (n := s) (N := 7) hs (by omega)
  refine ⟨w, ?_⟩
  rw [e, hh, ix_x]
  exact K
theorem x_push {s h m : Nat} {sc z : Int32} (hs : s < 7) (hh : xh s = nI h) (hb : h < 128) (hm : m < 96) (hz1 : op m = 7 → z = -1) (hz2 : ¬ op m = 7 → z = fi m)
    (K : post (xd, xg, xN, xL, xF, xV, xC, (nI s), ph, cr, ec, en, ft, bt, pr, op, a, b, xp, fi, xl, nx, xo, fn, fe, vn, vo, vv, xst, xf, xr, (upd xh s (nI (h + 1))), xc, (upd fN (s * 128 + h) (nI m)), (upd fX (s * 128 + h) z), (upd fS (s * 128 + h) sc), (upd fT (s * 128 + h) 0), (vp_updL fL ((s * 128 + h) * 4) 0), pv)) : wpX_push post (xd, xg, xN, xL, xF, xV, xC, (nI s), ph, cr, ec, en, ft, bt, pr, op, a, b, xp, fi, xl, nx, xo, fn, fe, vn, vo, vv, xst, xf, xr, xh, xc, fN, fX, fS, fT, fL, pv) (nI m) sc := by
  have e := nc_ (n := s) (by omega)
  have em := nc_ (n := m) (by omega)
  have ei := nc_ (n := s * 128 + h) (by omega)
  have e4 := nc_ (n := (s * 128 + h) * 4) (by omega)
  have w := vi_ (n := s) (N := 7) hs (by omega)
  have wm := vi_ (n := m) (N := 96) hm (by omega)
  have wi := vi_ (n := s * 128 + h) (N := 896) (by omega) (by omega)
  have w4 : vp_in (nI (s * 128 + h) * 4) 3584 := by rw [ix_4]; exact vi_ (by omega) (by omega)
  refine ⟨w, nm_r (e' := nI (s * 128 + h)) (by rw [e, hh, ix_x0]) ⟨w, w, nm_r (e' := upd xh s (nI (h + 1))) (by rw [e, hh, nI_1]) ⟨wi, nm_r (e' := upd fN (s * 128 + h) (nI m)) (by rw [ei]) ⟨wm, br_c (fun h7 => ?_) (fun h7 => ⟨wm, ?_⟩)⟩⟩⟩⟩
  · rw [em] at h7
    rw [hz1 h7] at K
    exact ⟨wi, nm_r (e' := upd fX (s * 128 + h) (-1)) (by rw [ei]) ⟨wi, nm_r (e' := upd fS (s * 128 + h) sc) (by rw [ei]) ⟨wi, nm_r (e' := upd fT (s * 128 + h) 0) (by rw [ei]) ⟨w4, nm_r (e' := vp_updL fL ((s * 128 + h) * 4) 0) (by rw [ix_4, e4]) K⟩⟩⟩⟩
  · rw [em] at h7
    rw [hz2 h7] at K
    exact ⟨wi, nm_r (e' := upd fX (s * 128 + h) (fi m)) (by rw [ei, em]) ⟨wi, nm_r (e' := upd fS (s * 128 + h) sc) (by rw [ei]) ⟨wi, nm_r (e' := upd fT (s * 128 + h) 0) (by rw [ei]) ⟨w4, nm_r (e' := vp_updL fL ((s * 128 + h) * 4) 0) (by rw [ix_4, e4]) K⟩⟩⟩⟩
theorem x_beat1 {q g : Nat} {post : Int32 → SX → Prop} (h : q < g) (hg : g < 1000) (K : post 1 (xd, (nI g), xN, xL, xF, xV, xC, xs, ph, cr, ec, en, ft, (nI (q + 1)), pr, op, a, b, xp, fi, xl, nx, xo, fn, fe, vn, vo, vv, xst, xf, xr, xh, xc, fN, fX, fS, fT, fL, pv)) : wpX_beat post (xd, (nI g), xN, xL, xF, xV, xC, xs, ph, cr, ec, en, ft, (nI q), pr, op, a, b, xp, fi, xl, nx, xo, fn, fe, vn, vo, vv, xst, xf, xr, xh, xc, fN, fX, fS, fT, fL, pv) := br_t (nI_lt h (by omega)) (nm_r (nI_1 q) K)
theorem x_beat0 {g : Nat} {post : Int32 → SX → Prop} (hg : g < 1000) (K : post 0 (xd, (nI g), xN, xL, xF, xV, xC, xs, 2, cr, ec, en, ft, (nI g), pr, op, a, b, xp, fi, xl, nx, xo, fn, fe, vn, vo, vv, xst, xf, xr, xh, xc, fN, fX, fS, fT, fL, pv)) : wpX_beat post (xd, (nI g), xN, xL, xF, xV, xC, xs, ph, cr, ec, en, ft, (nI g), pr, op, a, b, xp, fi, xl, nx, xo, fn, fe, vn, vo, vv, xst, xf, xr, xh, xc, fN, fX, fS, fT, fL, pv) := br_f (nI_nlt (Nat.le_refl _) (by omega)) K
theorem x_var {V : Nat} {nm sc : Int32} {val : Int64} {post : Int32 → SX → Prop} (hV : V < 120) (K : post (nI (V + 1)) (xd, xg, xN, xL, xF, (nI (V + 1)), xC, xs, ph, cr, ec, en, ft, bt, pr, op, a, b, xp, fi, xl, nx, xo, fn, fe, (upd vn (V + 1) nm), (upd vo (V + 1) sc), (vp_updL vv (V + 1) val), xst, xf, xr, xh, xc, fN, fX, fS, fT, fL, pv)) : wpX_newVariable post (xd, xg, xN, xL, xF, (nI V), xC, xs, ph, cr, ec, en, ft, bt, pr, op, a, b, xp, fi, xl, nx, xo, fn, fe, vn, vo, vv, xst, xf, xr, xh, xc, fN, fX, fS, fT, fL, pv) nm val sc := by
  have e := nc_ (n := V + 1) (by omega)
  have w := vi_ (n := V + 1) (N := 121) (by omega) (by omega)
  exact nm_r (nI_1 V) ⟨w, nm_r (e' := upd vn (V + 1) nm) (by rw [e]) ⟨w, nm_r (e' := vp_updL vv (V + 1) val) (by rw [e]) ⟨w, nm_r (e' := upd vo (V + 1) sc) (by rw [e]) K⟩⟩⟩
theorem x_num {s h : Nat} {x : Int32} (hs : s < 7) (hh : xh s = nI (h + 1)) (K : post (xd, xg, xN, xL, xF, xV, xC, (nI s), (-2), (lN (cv_n x + 4294967296)), ec, en, ft, bt, pr, op, a, b, xp, fi, xl, nx, xo, fn, fe, vn, vo, vv, xst, xf, xr, (upd xh s (nI h)), xc, fN, fX, fS, fT, fL, pv)) : wpX_finishNumber post (xd, xg, xN, xL, xF, xV, xC, (nI s), ph, cr, ec, en, ft, bt, pr, op, a, b, xp, fi, xl, nx, xo, fn, fe, vn, vo, vv, xst, xf, xr, xh, xc, fN, fX, fS, fT, fL, pv) x := by
  unfold wpX_finishNumber wpX_valueOf
  dsimp only
  rw [vo_1]
  exact x_finish hs hh K
theorem x_kind {y : Nat} {q : Int32 → Prop} (hy : y < 12884901901) (K : q (nI (y / 4294967296))) : wpX_kindOf q (lN y) := by
  unfold wpX_kindOf; rw [vo_k hy]; exact K
end
section
variable {yd yg yN yi yo yV yF yC ys yft ybt res yer ypl ypr rn hs : Int32} {gv gt : Int64} {op a b pa fi nx yp wn wu gn ge : Nat → Int32} {wv : Nat → Int64} {yl ya ye : Nat → Int32} {yk : Nat → Int64} {yt yc yst yf yr : Nat → Int32} {ou : Nat → Int64}
variable {post : SY → Prop}
theorem y_finish {s w n o : Nat} {val : Int64} (h7 : s < 7) (ht : yt s = nI (w + 1)) (hw : w < 112) (hl : yl (112 * s + w) = nI n) (hn : n < 96) (ho : op n = nI o) (ho2 : o ≤ 21) (h10 : o ≠ 10) (K : post (yd, yg, yN, yi, yo, yV, yF, yC, (nI s), yft, ybt, res, yer, ypl, ypr, rn, 1, gv, val, op, a, b, pa, fi, nx, yp, wn, wu, gn, ge, wv, yl, ya, ye, yk, (upd yt s (nI w)), yc, yst, yf, yr, ou)) : wpY_finish post (yd, yg, yN, yi, yo, yV, yF, yC, (nI s), yft, ybt, res, yer, ypl, ypr, rn, hs, gv, gt, op, a, b, pa, fi, nx, yp, wn, wu, gn, ge, wv, yl, ya, ye, yk, yt, yc, yst, yf, yr, ou) val := by
  have e := nc_ (n := s) (by omega)
  have en := nc_ (n := n) (by omega)
  have ei := nc_ (n := 112 * s + w) (by omega)
  have v := vi_ (n := s) (N := 7) h7 (by omega)
  have vn := vi_ (n := n) (N := 96) hn (by omega)
  have v1 := vi_ (n := 112 * s + w) (N := 784) (by omega) (by omega)
  refine ⟨v, v, nm_r (e' := upd yt s (nI w)) (by rw [e, ht, nI_pred]) ⟨v, nm_r (e' := nI (112 * s + w)) (by rw [e, pk_us, ix_y0]) ⟨v1, ?_, br_f ?_ K⟩⟩⟩
  · rw [ei, hl]; exact vn
  · rw [ei, hl, en, ho]
    intro h
    have := (nI_eq (a := o) (b := 10) (by omega) (by omega)).mp h
    omega
theorem y_finishF {s w n : Nat} {val : Int64} (h7 : s < 7) (ht : yt s = nI (w + 1)) (hw : w < 112) (hl : yl (112 * s + w) = nI n) (hn : n < 96) (ho : op n = 10) (K : wpY_returned post (yd, yg, yN, yi, yo, yV, yF, yC, (nI s), yft, ybt, res, yer, ypl, ypr, rn, hs, gv, gt, op, a, b, pa, fi, nx, yp, wn, wu, gn, ge, wv, yl, ya, ye, yk, (upd yt s (nI w)), yc, yst, yf, yr, ou) val) : wpY_finish post (yd, yg, yN, yi, yo, yV, yF, yC, (nI s), yft, ybt, res, yer, ypl, ypr, rn, hs, gv, gt, op, a, b, pa, fi, nx, yp, wn, wu, gn, ge, wv, yl, ya, ye, yk, yt, yc, yst, yf, yr, ou) val := by
  have e := nc_ (n := s) (by omega)
  have en := nc_ (n := n) (by omega)
  have ei := nc_ (n := 112 * s + w) (by omega)
  have v := vi_ (n := s) (N := 7) h7 (by omega)
  have vn := vi_ (n := n) (N := 96) hn (by omega)
  have v1 := vi_ (n := 112 * s + w) (N := 784) (by omega) (by omega)
  refine ⟨v, v, nm_r (e' := upd yt s (nI w)) (by rw [e, ht, nI_pred]) ⟨v, nm_r (e' := nI (112 * s + w)) (by rw [e, pk_us, ix_y0]) ⟨v1, ?_, br_t ?_ K⟩⟩⟩
  · rw [ei, hl]; exact vn
  · rw [ei, hl, en, ho]
theorem y_leave {s r w : Nat} {how : Int32} {val : Int64} (h7 : s < 7) (hr : r < 7) (hx : yr s = nI r) (ht : yt r = nI (w + 1)) (K : post (yd, yg, yN, yi, yo, yV, yF, yC, (nI r), yft, ybt, res, yer, ypl, ypr, rn, 1, gv, val, op, a, b, pa, fi, nx, yp, wn, wu, gn, ge, wv, yl, ya, ye, yk, (upd yt r (nI w)), yc, (upd yst s how), yf, yr, ou)) : wpY_leave post (yd, yg, yN, yi, yo, yV, yF, yC, (nI s), yft, ybt, res, yer, ypl, ypr, rn, hs, gv, gt, op, a, b, pa, fi, nx, yp, wn, wu, gn, ge, wv, yl, ya, ye, yk, yt, yc, yst, yf, yr, ou) how val := by
  have e := nc_ (n := s) (by omega)
  have er := nc_ (n := r) (by omega)
  have v := vi_ (n := s) (N := 7) h7 (by omega)
  have vr := vi_ (n := r) (N := 7) hr (by omega)
  exact ⟨v, nm_r (e' := upd yst s how) (by rw [e]) ⟨v, nm_r (e' := nI r) (by rw [e, hx]) ⟨vr, vr, nm_r (e' := upd yt r (nI w)) (by rw [er, ht, nI_pred]) K⟩⟩⟩
theorem y_raise0 {code nd : Int32} (K : post (yd, yg, yN, yi, yo, yV, yF, yC, (nI 0), yft, ybt, 1, code, nd, ypr, 0, hs, 4294967296, gt, op, a, b, pa, fi, nx, yp, wn, wu, gn, ge, wv, yl, ya, ye, yk, yt, yc, yst, yf, yr, ou)) : wpY_raise post (yd, yg, yN, yi, yo, yV, yF, yC, (nI 0), yft, ybt, res, yer, ypl, ypr, rn, hs, gv, gt, op, a, b, pa, fi, nx, yp, wn, wu, gn, ge, wv, yl, ya, ye, yk, yt, yc, yst, yf, yr, ou) code nd := br_t rfl K
theorem y_raise1 {s r w : Nat} {code nd : Int32} (h0 : 1 ≤ s) (h7 : s < 7) (hr : r < 7) (hx : yr s = nI r) (ht : yt r = nI (w + 1)) (K : post (yd, yg, yN, yi, yo, yV, yF, yC, (nI r), code, ybt, res, yer, ypl, ypr, rn, 1, gv, 4294967296, op, a, b, pa, fi, nx, yp, wn, wu, gn, ge, wv, yl, ya, ye, yk, (upd yt r (nI w)), yc, (upd yst s 2), yf, yr, ou)) : wpY_raise post (yd, yg, yN, yi, yo, yV, yF, yC, (nI s), yft, ybt, res, yer, ypl, ypr, rn, hs, gv, gt, op, a, b, pa, fi, nx, yp, wn, wu, gn, ge, wv, yl, ya, ye, yk, yt, yc, yst, yf, yr, ou) code nd :=
  br_f (nI_ne0 (by omega) (by omega)) (y_leave h7 hr hx ht K)
theorem y_ret0 {s c r w : Nat} {val : Int64} (h7 : s < 7) (hr : r < 7) (hx : yr s = nI r) (hrs : r ≠ s) (hc : yc s = nI (c + 1)) (h0 : yt s = nI 0) (ht : yt r = nI (w + 1)) (K : post (yd, yg, yN, yi, yo, yV, yF, yC, (nI r), yft, ybt, res, yer, ypl, ypr, rn, 1, gv, val, op, a, b, pa, fi, nx, yp, wn, wu, gn, ge, wv, yl, ya, ye, yk, (upd yt r (nI w)), (upd yc s (nI c)), (upd yst s 2), yf, yr, ou)) : wpY_returned post (yd, yg, yN, yi, yo, yV, yF, yC, (nI s), yft, ybt, res, yer, ypl, ypr, rn, hs, gv, gt, op, a, b, pa, fi, nx, yp, wn, wu, gn, ge, wv, yl, ya, ye, yk, yt, yc, yst, yf, yr, ou) val := by
  have e := nc_ (n := s) (by omega)
  have v := vi_ (n := s) (N := 7) h7 (by omega)
  exact ⟨v, v, nm_r (e' := upd yc s (nI c)) (by rw [e, hc, nI_pred]) ⟨v, br_t (by rw [e, h0]; rfl) (y_leave h7 hr hx ht K)⟩⟩
theorem y_ret1 {s c w : Nat} {val : Int64} (h7 : s < 7) (hc : yc s = nI (c + 1)) (ht : yt s = nI (w + 1)) (hw : w < 112) (K : post (yd, yg, yN, yi, yo, yV, yF, yC, (nI s), yft, ybt, res, yer, ypl, ypr, rn, 1, gv, val, op, a, b, pa, fi, nx, yp, wn, wu, gn, ge, wv, yl, ya, ye, yk, (upd yt s (nI w)), (upd yc s (nI c)), yst, yf, yr, ou)) : wpY_returned post (yd, yg, yN, yi, yo, yV, yF, yC, (nI s), yft, ybt, res, yer, ypl, ypr, rn, hs, gv, gt, op, a, b, pa, fi, nx, yp, wn, wu, gn, ge, wv, yl, ya, ye, yk, yt, yc, yst, yf, yr, ou) val := by
  have e := nc_ (n := s) (by omega)
  have v := vi_ (n := s) (N := 7) h7 (by omega)
  exact ⟨v, v, nm_r (e' := upd yc s (nI c)) (by rw [e, hc, nI_pred]) ⟨v, br_f (by rw [e, ht]; exact nI_ne0 (by omega) (by omega)) ⟨v, v, nm_r (e' := upd yt s (nI w)) (by rw [e, ht, nI_pred]) K⟩⟩⟩
theorem y_beat1 {q g : Nat} {post : Int32 → SY → Prop} (h : q < g) (hg : g < 1000) (K : post 1 (yd, (nI g), yN, yi, yo, yV, yF, yC, ys, yft, (nI (q + 1)), res, yer, ypl, ypr, rn, hs, gv, gt, op, a, b, pa, fi, nx, yp, wn, wu, gn, ge, wv, yl, ya, ye, yk, yt, yc, yst, yf, yr, ou)) : wpY_beat post (yd, (nI g), yN, yi, yo, yV, yF, yC, ys, yft, (nI q), res, yer, ypl, ypr, rn, hs, gv, gt, op, a, b, pa, fi, nx, yp, wn, wu, gn, ge, wv, yl, ya, ye, yk, yt, yc, yst, yf, yr, ou) := br_f (fun z => by have := (nI_eq (by omega) (by omega)).mp z; omega) (nm_r (nI_1 q) K)
theorem y_beat0 {g : Nat} {post : Int32 → SY → Prop} (K : post 0 (yd, (nI g), yN, yi, yo, yV, yF, yC, ys, yft, (nI g), 2, yer, ypl, ypr, 0, hs, 4294967296, gt, op, a, b, pa, fi, nx, yp, wn, wu, gn, ge, wv, yl, ya, ye, yk, yt, yc, yst, yf, yr, ou)) : wpY_beat post (yd, (nI g), yN, yi, yo, yV, yF, yC, ys, yft, (nI g), res, yer, ypl, ypr, rn, hs, gv, gt, op, a, b, pa, fi, nx, yp, wn, wu, gn, ge, wv, yl, ya, ye, yk, yt, yc, yst, yf, yr, ou) := br_t rfl K
theorem y_push {s w m : Nat} {sc : Int32} (h7 : s < 7) (ht : yt s = nI w) (hw : w < 112) (K : post (yd, yg, yN, yi, yo, yV, yF, yC, (nI s), yft, ybt, res, yer, ypl, ypr, rn, hs, gv, gt, op, a, b, pa, fi, nx, yp, wn, wu, gn, ge, wv, (upd yl (112 * s + w) (nI m)), (upd ya (112 * s + w) 0), (upd ye (112 * s + w) sc), yk, (upd yt s (nI (w + 1))), yc, yst, yf, yr, ou)) : wpY_push post (yd, yg, yN, yi, yo, yV, yF, yC, (nI s), yft, ybt, res, yer, ypl, ypr, rn, hs, gv, gt, op, a, b, pa, fi, nx, yp, wn, wu, gn, ge, wv, yl, ya, ye, yk, yt, yc, yst, yf, yr, ou) (nI m) sc := by
  have e := nc_ (n := s) (by omega)
  have ei := nc_ (n := 112 * s + w) (by omega)
  have v := vi_ (n := s) (N := 7) h7 (by omega)
  have v1 := vi_ (n := 112 * s + w) (N := 784) (by omega) (by omega)
  exact ⟨v, nm_r (e' := nI (112 * s + w)) (by rw [e, ht, ix_y0]) ⟨v1, nm_r (e' := upd yl (112 * s + w) (nI m)) (by rw [ei]) ⟨v1, nm_r (e' := upd ya (112 * s + w) 0) (by rw [ei]) ⟨v1, nm_r (e' := upd ye (112 * s + w) sc) (by rw [ei]) ⟨v, v, nm_r (e' := upd yt s (nI (w + 1))) (by rw [e, ht, nI_1]) K⟩⟩⟩⟩⟩
theorem y_var {V : Nat} {nm sc : Int32} {val : Int64} {post : Int32 → SY → Prop} (hV : V < 120) (K : post (nI V) (yd, yg, yN, yi, yo, (nI (V + 1)), yF, yC, ys, yft, ybt, res, yer, ypl, ypr, rn, hs, gv, gt, op, a, b, pa, fi, nx, yp, (upd wn V nm), (upd wu V sc), gn, ge, (vp_updL wv V val), yl, ya, ye, yk, yt, yc, yst, yf, yr, ou)) : wpY_variable post (yd, yg, yN, yi, yo, (nI V), yF, yC, ys, yft, ybt, res, yer, ypl, ypr, rn, hs, gv, gt, op, a, b, pa, fi, nx, yp, wn, wu, gn, ge, wv, yl, ya, ye, yk, yt, yc, yst, yf, yr, ou) nm val sc := by
  have e := nc_ (n := V) (by omega)
  have v := vi_ (n := V) (N := 120) hV (by omega)
  refine ⟨v, nm_r (e' := upd wn V nm) (by rw [e]) ⟨v, nm_r (e' := vp_updL wv V val) (by rw [e]) ⟨v, nm_r (e' := upd wu V sc) (by rw [e]) (nm_r (nI_1 V) ?_)⟩⟩⟩
  rw [nI_pred]
  exact K
end
end
section
section
variable {op a b fi nx pa : Nat → Int32} {N : Nat} {oc pc E lv : Nat → Nat} {kd : Nat → Nat → Nat} {SC : Nat → Int32 → Prop}
variable {F C V : Nat} {D : Nat → Int32 → Prop} {K T : Nat → Nat → Nat} {fN fX fS fT : Nat → Int32} {fL : Nat → Int64} {yl ya ye : Nat → Int32} {yk : Nat → Int64} {P H : Nat → Nat} {dep : Nat} {xh xc yt yc fn fe gn ge vn vo : Nat → Int32} {vv : Nat → Int64} {wn wu : Nat → Int32} {wv : Nat → Int64} {xst xf xr yst yf yr : Nat → Int32} {Q : Nat → Nat} {k s h : Nat}
variable {fu : Nat} {xN xL : Int32} {xp xl xo : Nat → Int32} {yN yi yo : Int32} {yp : Nat → Int32}
variable {ph ec en ft : Int32} {cr gv gt : Int64} {q w φ : Nat} {pv ou : Nat → Int64} {hs : Int32}
/-- X's loop and Y's loop on whole states -/
def xl_ (post : Int32 → SX → Prop) (n : Nat) (x1 : Int32) (u : SX) : Prop := match u with
  | (xd, xg, xN, xL, xF, xV, xC, xs, ph, cr, ec, en, ft, bt, pr, op, a, b, xp, fi, xl, nx, xo, fn, fe, vn, vo, vv, xst, xf, xr, xh, xc, fN, fX, fS, fT, fL, pv) => wX_run_21 post n x1 xd xg xN xL xF xV xC xs ph cr ec en ft bt pr op a b xp fi xl nx xo fn fe vn vo vv xst xf xr xh xc fN fX fS fT fL pv
def yl_ (post : Int32 → SY → Prop) (n : Nat) (v : SY) : Prop := match v with
  | (yd, yg, yN, yi, yo, yV, yF, yC, ys, yft, ybt, res, yer, ypl, ypr, rn, hs, gv, gt, op, a, b, pa, fi, nx, yp, wn, wu, gn, ge, wv, yl, ya, ye, yk, yt, yc, yst, yf, yr, ou) => wY_run_117 post n yd yg yN yi yo yV yF yC ys yft ybt res yer ypl ypr rn hs gv gt op a b pa fi nx yp wn wu gn ge wv yl ya ye yk yt yc yst yf yr ou
/-- k steps of X, one step of Y -/
def xs_ (k : Nat) (u u' : SX) : Prop := ∀ (post : Int32 → SX → Prop) (n q : Nat), q + k ≤ 1000000 → xl_ post n (nI (q + k)) u' → xl_ post (n + k) (nI q) u
def ys_ (v v' : SY) : Prop := ∀ (post : Int32 → SY → Prop) (n : Nat), yl_ post n v' → yl_ post (n + 1) v
theorem xs_0 (u : SX) : xs_ 0 u u := fun _ _ _ _ h => h
theorem xs_t {k1 k2 : Nat} {u1 u2 u3 : SX} (h1 : xs_ k1 u1 u2) (h2 : xs_ k2 u2 u3) : xs_ (k1 + k2) u1 u3 := by
  intro post n q hq h
  have e : n + (k1 + k2) = (n + k2) + k1 := by omega
  rw [e]
  refine h1 post (n + k2) q (by omega) (h2 post n (q + k1) (by omega) ?_)
  rw [show q + k1 + k2 = q + (k1 + k2) by omega]
  exact h
def cr_AT (K T : Nat → Nat → Nat) (P : Nat → Nat) (dep : Nat) (xh xc yt yc : Nat → Int32) (s h : Nat) : Prop :=
  (K s h ≤ dep ∧ T s h + 2 ≤ P s ∧ (1 ≤ s → 1 ≤ h)) ∧ xh s = nI h ∧ yt s = nI (h + K s h - cz_ s) ∧ xc s = nI (K s h) ∧ yc s = nI (K s h)
def cr_BT (K T : Nat → Nat → Nat) (P : Nat → Nat) (dep : Nat) (xh xc yt yc : Nat → Int32) (s h : Nat) : Prop :=
  (K s (h + 1) ≤ dep ∧ T s (h + 1) ≤ P s) ∧ xh s = nI (h + 1) ∧ yt s = nI (h + 1 + K s (h + 1) - cz_ s) ∧ xc s = nI (K s (h + 1)) ∧ yc s = nI (K s (h + 1))
/-- fuel, potential, what was printed -/
def cr_K (φ fu q w F C : Nat) (P : Nat → Nat) (pv ou : Nat → Int64) : Prop :=
  (q ≤ fu ∧ fu ≤ 200 ∧ φ = 400 * (fu - q) + sm_ P 7 ∧ w + φ ≤ 90000) ∧ ∀ j, j < 24 → j < w → cv_R F C (pv j) (ou j)
/-- a value is carried -/
def cr_A (op a b fi nx pa : Nat → Int32) (N : Nat) (oc pc E lv : Nat → Nat) (kd : Nat → Nat → Nat) (SC : Nat → Int32 → Prop) (dep fu : Nat) (xN xL : Int32) (xp xl xo : Nat → Int32) (yN yi yo : Int32) (yp : Nat → Int32) (φ : Nat) (u : SX) (v : SY) : Prop :=
  ∃ (F C V : Nat) (D : Nat → Int32 → Prop) (K T : Nat → Nat → Nat) (P H : Nat → Nat) (Q : Nat → Nat) (k s h q w : Nat) (ec en ft : Int32) (cr gv gt : Int64) (fn fe vn vo : Nat → Int32) (vv : Nat → Int64) (xst xf xr xh xc fN fX fS fT : Nat → Int32) (fL pv : Nat → Int64) (wn wu gn ge : Nat → Int32) (wv : Nat → Int64) (yl ya ye : Nat → Int32) (yk : Nat → Int64) (yt yc yst yf yr : Nat → Int32) (ou : Nat → Int64),
    u = ((nI dep), (nI fu), xN, xL, (nI F), (nI V), (nI C), (nI s), (-2), cr, ec, en, ft, (nI q), (nI w), op, a, b, xp, fi, xl, nx, xo, fn, fe, vn, vo, vv, xst, xf, xr, xh, xc, fN, fX, fS, fT, fL, pv) ∧ v = ((nI dep), (nI fu), yN, yi, yo, (nI V), (nI F), (nI C), (nI s), ft, (nI q), 0, 0, (-1), (nI w), 1, 1, gv, gt, op, a, b, pa, fi, nx, yp, wn, wu, gn, ge, wv, yl, ya, ye, yk, yt, yc, yst, yf, yr, ou) ∧ (cc_C N oc pc E lv kd a b SC F C V D K T fN fX fS fT fL yl ya ye yk P H dep xh xc yt yc fn fe gn ge vn vo vv wn wu wv xst xf xr yst yf yr Q k s h) ∧ (cr_AT K T P dep xh xc yt yc s h) ∧ (cr_K φ fu q w F C P pv ou) ∧ cv_R F C cr gt
/-- the top frame's part is next -/
def cr_B (op a b fi nx pa : Nat → Int32) (N : Nat) (oc pc E lv : Nat → Nat) (kd : Nat → Nat → Nat) (SC : Nat → Int32 → Prop) (dep fu : Nat) (xN xL : Int32) (xp xl xo : Nat → Int32) (yN yi yo : Int32) (yp : Nat → Int32) (φ : Nat) (u : SX) (v : SY) : Prop :=
  ∃ (F C V : Nat) (D : Nat → Int32 → Prop) (K T : Nat → Nat → Nat) (P H : Nat → Nat) (Q : Nat → Nat) (k s h q w : Nat) (ec en ft : Int32) (cr gv gt : Int64) (fn fe vn vo : Nat → Int32) (vv : Nat → Int64) (xst xf xr xh xc fN fX fS fT : Nat → Int32) (fL pv : Nat → Int64) (wn wu gn ge : Nat → Int32) (wv : Nat → Int64) (yl ya ye : Nat → Int32) (yk : Nat → Int64) (yt yc yst yf yr : Nat → Int32) (ou : Nat → Int64),
    u = ((nI dep), (nI fu), xN, xL, (nI F), (nI V), (nI C), (nI s), (-1), cr, ec, en, ft, (nI q), (nI w), op, a, b, xp, fi, xl, nx, xo, fn, fe, vn, vo, vv, xst, xf, xr, xh, xc, fN, fX, fS, fT, fL, pv) ∧ v = ((nI dep), (nI fu), yN, yi, yo, (nI V), (nI F), (nI C), (nI s), ft, (nI q), 0, 0, (-1), (nI w), 1, 0, gv, gt, op, a, b, pa, fi, nx, yp, wn, wu, gn, ge, wv, yl, ya, ye, yk, yt, yc, yst, yf, yr, ou) ∧ (cc_C N oc pc E lv kd a b SC F C V D K T fN fX fS fT fL yl ya ye yk P H dep xh xc yt yc fn fe gn ge vn vo vv wn wu wv xst xf xr yst yf yr Q k s h) ∧ (cf_RX N oc pc E lv kd a b SC F C V D K T fN fX fS fT fL yl ya ye yk s h) ∧ (cr_BT K T P dep xh xc yt yc s h) ∧ (cr_K φ fu q w F C P pv ou)
/-- the answers of a run that has ended -/
def cr_O (F C : Nat) (ph : Int32) (cr : Int64) (ec en : Int32) (res yer ypl : Int32) (gv : Int64) : Prop :=
  ∃ p, p ≤ 3 ∧ ph = nI p ∧ res = nI p ∧ (p = 0 → cv_R F C cr gv) ∧ (p = 1 → yer = ec ∧ ypl = en) ∧ (p ≠ 1 → yer = 0 ∧ ypl = -1)
/-- the run has ended -/
def cr_E (op a b fi nx pa : Nat → Int32) (dep fu : Nat) (xN xL : Int32) (xp xl xo : Nat → Int32) (yN yi yo : Int32) (yp : Nat → Int32) (u : SX) (v : SY) : Prop :=
  ∃ (F C V s q w : Nat) (ph ec en ft res yer ypl hs : Int32) (cr gv gt : Int64) (fn fe vn vo : Nat → Int32) (vv : Nat → Int64) (xst xf xr xh xc fN fX fS fT : Nat → Int32) (fL pv : Nat → Int64) (wn wu gn ge : Nat → Int32) (wv : Nat → Int64) (yl ya ye : Nat → Int32) (yk : Nat → Int64) (yt yc yst yf yr : Nat → Int32) (ou : Nat → Int64),
    u = ((nI dep), (nI fu), xN, xL, (nI F), (nI V), (nI C), (nI s), ph, cr, ec, en, ft, (nI q), (nI w), op, a, b, xp, fi, xl, nx, xo, fn, fe, vn, vo, vv, xst, xf, xr, xh, xc, fN, fX, fS, fT, fL, pv) ∧ v = ((nI dep), (nI fu), yN, yi, yo, (nI V), (nI F), (nI C), (nI s), ft, (nI q), res, yer, ypl, (nI w), 0, hs, gv, gt, op, a, b, pa, fi, nx, yp, wn, wu, gn, ge, wv, yl, ya, ye, yk, yt, yc, yst, yf, yr, ou) ∧ F ≤ 40 ∧ C ≤ 6 ∧ w ≤ 90000 ∧ 0 ≤ ph ∧ cr_O F C ph cr ec en res yer ypl gv ∧ ∀ j, j < 24 → j < w → cv_R F C (pv j) (ou j)
/-- related states, d X steps below potential φ -/
def cr_T (op a b fi nx pa : Nat → Int32) (N : Nat) (oc pc E lv : Nat → Nat) (kd : Nat → Nat → Nat) (SC : Nat → Int32 → Prop) (dep fu : Nat) (xN xL : Int32) (xp xl xo : Nat → Int32) (yN yi yo : Int32) (yp : Nat → Int32) (φ d : Nat) (u : SX) (v : SY) : Prop :=
  ∃ φ', φ' + d ≤ φ ∧ (cr_A op a b fi nx pa N oc pc E lv kd SC dep fu xN xL xp xl xo yN yi yo yp φ' u v ∨ cr_B op a b fi nx pa N oc pc E lv kd SC dep fu xN xL xp xl xo yN yi yo yp φ' u v ∨ cr_E op a b fi nx pa dep fu xN xL xp xl xo yN yi yo yp u v)
theorem cr_mkA {d φ' : Nat} (hφ : φ' + d ≤ φ) (h1 : (cc_C N oc pc E lv kd a b SC F C V D K T fN fX fS fT fL yl ya ye yk P H dep xh xc yt yc fn fe gn ge vn vo vv wn wu wv xst xf xr yst yf yr Q k s h)) (h2 : (cr_AT K T P dep xh xc yt yc s h)) (h3 : (cr_K φ' fu q w F C P pv ou)) (h4 : cv_R F C cr gt) : cr_T op a b fi nx pa N oc pc E lv kd SC dep fu xN xL xp xl xo yN yi yo yp φ d ((nI dep), (nI fu), xN, xL, (nI F), (nI V), (nI C), (nI s), (-2), cr, ec, en, ft, (nI q), (nI w), op, a, b, xp, fi, xl, nx, xo, fn, fe, vn, vo, vv, xst, xf, xr, xh, xc, fN, fX, fS, fT, fL, pv) ((nI dep), (nI fu), yN, yi, yo, (nI V), (nI F), (nI C), (nI s), ft, (nI q), 0, 0, (-1), (nI w), 1, 1, gv, gt, op, a, b, pa, fi, nx, yp, wn, wu, gn, ge, wv, yl, ya, ye, yk, yt, yc, yst, yf, yr, ou) :=
  ⟨φ', hφ, Or.inl ⟨F, C, V, D, K, T, P, H, Q, k, s, h, q, w, ec, en, ft, cr, gv, gt, fn, fe, vn, vo, vv, xst, xf, xr, xh, xc, fN, fX, fS, fT, fL, pv, wn, wu, gn, ge, wv, yl, ya, ye, yk, yt, yc, yst, yf, yr, ou, rfl, rfl, h1, h2, h3, h4⟩⟩
theorem cr_mkB {d φ' : Nat} (hφ : φ' + d ≤ φ) (h1 : (cc_C N oc pc E lv kd a b SC F C V D K T fN fX fS fT fL yl ya ye yk P H dep xh xc yt yc fn fe gn ge vn vo vv wn wu wv xst xf xr yst yf yr Q k s h)) (h4 : (cf_RX N oc pc E lv kd a b SC F C V D K T fN fX fS fT fL yl ya ye yk s h)) (h2 : (cr_BT K T P dep xh xc yt yc s h)) (h3 : (cr_K φ' fu q w F C P pv ou)) : cr_T op a b fi nx pa N oc pc E lv kd SC dep fu xN xL xp xl xo yN yi yo yp φ d ((nI dep), (nI fu), xN, xL, (nI F), (nI V), (nI C), (nI s), (-1), cr, ec, en, ft, (nI q), (nI w), op, a, b, xp, fi, xl, nx, xo, fn, fe, vn, vo, vv, xst, xf, xr, xh, xc, fN, fX, fS, fT, fL, pv) ((nI dep), (nI fu), yN, yi, yo, (nI V), (nI F), (nI C), (nI s), ft, (nI q), 0, 0, (-1), (nI w), 1, 0, gv, gt, op, a, b, pa, fi, nx, yp, wn, wu, gn, ge, wv, yl, ya, ye, yk, yt, yc, yst, yf, yr, ou) :=
  ⟨φ', hφ, Or.inr (Or.inl ⟨F, C, V, D, K, T, P, H, Q, k, s, h, q, w, ec, en, ft, cr, gv, gt, fn, fe, vn, vo, vv, xst, xf, xr, xh, xc, fN, fX, fS, fT, fL, pv, wn, wu, gn, ge, wv, yl, ya, ye, yk, yt, yc, yst, yf, yr, ou, rfl, rfl, h1, h4, h2, h3⟩)⟩
theorem cr_mkE {d : Nat} {res yer ypl : Int32} (hφ : d ≤ φ) (h1 : F ≤ 40) (h2 : C ≤ 6) (hw : w ≤ 90000) (h3 : 0 ≤ ph) (h4 : cr_O F C ph cr ec en res yer ypl gv) (h5 : ∀ j, j < 24 → j < w → cv_R F C (pv j) (ou j)) : cr_T op a b fi nx pa N oc pc E lv kd SC dep fu xN xL xp xl xo yN yi yo yp φ d ((nI dep), (nI fu), xN, xL, (nI F), (nI V), (nI C), (nI s), ph, cr, ec, en, ft, (nI q), (nI w), op, a, b, xp, fi, xl, nx, xo, fn, fe, vn, vo, vv, xst, xf, xr, xh, xc, fN, fX, fS, fT, fL, pv) ((nI dep), (nI fu), yN, yi, yo, (nI V), (nI F), (nI C), (nI s), ft, (nI q), res, yer, ypl, (nI w), 0, hs, gv, gt, op, a, b, pa, fi, nx, yp, wn, wu, gn, ge, wv, yl, ya, ye, yk, yt, yc, yst, yf, yr, ou) :=
  ⟨0, by omega, Or.inr (Or.inr ⟨F, C, V, s, q, w, ph, ec, en, ft, res, yer, ypl, hs, cr, gv, gt, fn, fe, vn, vo, vv, xst, xf, xr, xh, xc, fN, fX, fS, fT, fL, pv, wn, wu, gn, ge, wv, yl, ya, ye, yk, yt, yc, yst, yf, yr, ou, rfl, rfl, h1, h2, hw, h3, h4, h5⟩)⟩
/-- the potential when strand s gets another share -/
theorem cr_P {P' : Nat → Nat} {m d : Nat} (h : (cr_K φ fu q w F C P pv ou)) (hs7 : s < 7) (hP : P' = ch_ P s m) (hd : m + d ≤ P s) : ∃ φ', φ' + d ≤ φ ∧ (cr_K φ' fu q w F C P' pv ou) := by
  obtain ⟨⟨h1, h2, h3, h4⟩, h5⟩ := h
  have hm := sm_u (f := P) (s := s) (v := m) 7 hs7
  have e : sm_ P' 7 = sm_ (fun r => if r = s then m else P r) 7 := by rw [hP]; rfl
  refine ⟨400 * (fu - q) + sm_ P' 7, by omega, ⟨h1, h2, rfl, by omega⟩, h5⟩
end
section
variable {xd xg xN xL xF xV xC xs ph : Int32} {cr : Int64} {ec en ft bt pr : Int32} {op a b xp fi xl nx xo fn fe vn vo : Nat → Int32} {vv : Nat → Int64} {xst xf xr xh xc fN fX fS fT : Nat → Int32} {fL pv : Nat → Int64}
theorem xs_d {u' : SX} (H : ∀ post : SX → Prop, post u' → wpX_deliver post (xd, xg, xN, xL, xF, xV, xC, xs, (-2), cr, ec, en, ft, bt, pr, op, a, b, xp, fi, xl, nx, xo, fn, fe, vn, vo, vv, xst, xf, xr, xh, xc, fN, fX, fS, fT, fL, pv)) : xs_ 1 (xd, xg, xN, xL, xF, xV, xC, xs, (-2), cr, ec, en, ft, bt, pr, op, a, b, xp, fi, xl, nx, xo, fn, fe, vn, vo, vv, xst, xf, xr, xh, xc, fN, fX, fS, fT, fL, pv) u' := by
  intro post n q hq h
  have hlt : ¬ (1000000 : Int32) ≤ nI q := nI_ge (b := 1000000) (by omega) (by decide)
  refine br_f hlt (br_f (by decide) (br_t rfl (H _ ?_)))
  obtain ⟨_, _, _, _, _, _, _, _, _, _, _, _, _, _, _, _, _, _, _, _, _, _, _, _, _, _, _, _, _, _, _, _, _, _, _, _, _, _, _⟩ := u'
  exact nm_r (nI_1 q) h
theorem xs_a {u' : SX} (H : ∀ post : SX → Prop, post u' → wpX_advance post (xd, xg, xN, xL, xF, xV, xC, xs, (-1), cr, ec, en, ft, bt, pr, op, a, b, xp, fi, xl, nx, xo, fn, fe, vn, vo, vv, xst, xf, xr, xh, xc, fN, fX, fS, fT, fL, pv)) : xs_ 1 (xd, xg, xN, xL, xF, xV, xC, xs, (-1), cr, ec, en, ft, bt, pr, op, a, b, xp, fi, xl, nx, xo, fn, fe, vn, vo, vv, xst, xf, xr, xh, xc, fN, fX, fS, fT, fL, pv) u' := by
  intro post n q hq h
  have hlt : ¬ (1000000 : Int32) ≤ nI q := nI_ge (b := 1000000) (by omega) (by decide)
  refine br_f hlt (br_f (by decide) (br_f (by decide) (H _ ?_)))
  obtain ⟨_, _, _, _, _, _, _, _, _, _, _, _, _, _, _, _, _, _, _, _, _, _, _, _, _, _, _, _, _, _, _, _, _, _, _, _, _, _, _⟩ := u'
  exact nm_r (nI_1 q) h
end
section
variable {yd yg yN yi yo yV yF yC ys yft ybt res yer ypl ypr rn hs : Int32} {gv gt : Int64} {op a b pa fi nx yp wn wu gn ge : Nat → Int32} {wv : Nat → Int64} {yl ya ye : Nat → Int32} {yk : Nat → Int64} {yt yc yst yf yr : Nat → Int32} {ou : Nat → Int64}
theorem ys_d {v' : SY} (H : ∀ post : SY → Prop, post v' → wpY_deliver post (yd, yg, yN, yi, yo, yV, yF, yC, ys, yft, ybt, res, yer, ypl, ypr, 1, 0, gv, gt, op, a, b, pa, fi, nx, yp, wn, wu, gn, ge, wv, yl, ya, ye, yk, yt, yc, yst, yf, yr, ou) gt) : ys_ (yd, yg, yN, yi, yo, yV, yF, yC, ys, yft, ybt, res, yer, ypl, ypr, 1, 1, gv, gt, op, a, b, pa, fi, nx, yp, wn, wu, gn, ge, wv, yl, ya, ye, yk, yt, yc, yst, yf, yr, ou) v' := by
  intro post n h
  refine br_f (by decide) (br_f (by decide) (H _ ?_))
  obtain ⟨_, _, _, _, _, _, _, _, _, _, _, _, _, _, _, _, _, _, _, _, _, _, _, _, _, _, _, _, _, _, _, _, _, _, _, _, _, _, _, _, _⟩ := v'
  exact h
end
end
section
section
variable {op a b fi nx pa : Nat → Int32} {N : Nat} {oc pc E lv : Nat → Nat} {kd : Nat → Nat → Nat} {SC : Nat → Int32 → Prop}
variable {F C V : Nat} {D : Nat → Int32 → Prop} {K T : Nat → Nat → Nat} {fN fX fS fT : Nat → Int32} {fL : Nat → Int64} {yl ya ye : Nat → Int32} {yk : Nat → Int64} {P H : Nat → Nat} {dep : Nat} {xh xc yt yc fn fe gn ge vn vo : Nat → Int32} {vv : Nat → Int64} {wn wu : Nat → Int32} {wv : Nat → Int64} {xst xf xr yst yf yr : Nat → Int32} {Q : Nat → Nat} {k s h : Nat}
variable {fu : Nat} {xN xL : Int32} {xp xl xo : Nat → Int32} {yN yi yo : Int32} {yp : Nat → Int32}
variable {ph ec en ft : Int32} {cr gv gt : Int64} {q w φ : Nat} {pv ou : Nat → Int64} {hs : Int32}
theorem ca_c {P : Nat → Nat} {s v : Nat} : ca_ s (s + 1) P (ch_ P s v) := ca_p
theorem cf_h (ht : (ct_all op a b fi nx pa N oc pc E lv kd SC)) (h1 : (cf_FR N oc pc E lv kd a b SC F C V D K T fN fX fS fT fL yl ya ye yk s h)) (hK : K s h ≤ 6) : h ≤ 107 ∧ h + K s h ≤ 112 + cz_ s := by
  rcases Nat.eq_zero_or_pos h with hz | hz
  · have := cz_le s; omega
  · have k1 := cf_Kle h1 0 h (by omega)
    have := cf_bd ht (h1 (h - 1) (by omega)) (by rw [show h - 1 + 1 = h by omega]; exact hK)
    rw [show h - 1 + 1 = h by omega] at this
    omega
theorem cf_z (ht : (ct_all op a b fi nx pa N oc pc E lv kd SC)) (h1 : (cf_FR N oc pc E lv kd a b SC F C V D K T fN fX fS fT fL yl ya ye yk s h)) (hK : K s h ≤ 6) (hsh : 1 ≤ s → 1 ≤ h) : cz_ s ≤ K s h := by
  rcases Nat.eq_zero_or_pos s with hz | hz
  · rw [hz, cz_0]; exact Nat.zero_le _
  · have := cf_bd ht (h1 (h - 1) (by have := hsh hz; omega)) (by rw [show h - 1 + 1 = h by have := hsh hz; omega]; exact hK)
    rw [show h - 1 + 1 = h by have := hsh hz; omega] at this
    exact this.2.2
theorem cc_FR (h1 : (cc_C N oc pc E lv kd a b SC F C V D K T fN fX fS fT fL yl ya ye yk P H dep xh xc yt yc fn fe gn ge vn vo vv wn wu wv xst xf xr yst yf yr Q k s h)) : (cf_FR N oc pc E lv kd a b SC F C V D K T fN fX fS fT fL yl ya ye yk s h) := h1.2.2.2.2.2.2.2.2
theorem cc_dep (h1 : (cc_C N oc pc E lv kd a b SC F C V D K T fN fX fS fT fL yl ya ye yk P H dep xh xc yt yc fn fe gn ge vn vo vv wn wu wv xst xf xr yst yf yr Q k s h)) : dep ≤ 6 := h1.1.2.2.2.1
/-- the top frame is gone, a value is carried -/
theorem cr_pop {d : Nat} (ht : (ct_all op a b fi nx pa N oc pc E lv kd SC)) (h1 : (cc_C N oc pc E lv kd a b SC F C V D K T fN fX fS fT fL yl ya ye yk P H dep xh xc yt yc fn fe gn ge vn vo vv wn wu wv xst xf xr yst yf yr Q k s h)) (hK : K s h ≤ dep) (hx : xc s = nI (K s h)) (hy : yc s = nI (K s h)) (hsh : 1 ≤ s → 1 ≤ h) (hk : (cr_K φ fu q w F C P pv ou)) (hd : T s h + 2 + d ≤ P s) (hv : cv_R F C cr gt) :
    cr_T op a b fi nx pa N oc pc E lv kd SC dep fu xN xL xp xl xo yN yi yo yp φ d ((nI dep), (nI fu), xN, xL, (nI F), (nI V), (nI C), (nI s), (-2), cr, ec, en, ft, (nI q), (nI w), op, a, b, xp, fi, xl, nx, xo, fn, fe, vn, vo, vv, xst, xf, xr, (upd xh s (nI h)), xc, fN, fX, fS, fT, fL, pv) ((nI dep), (nI fu), yN, yi, yo, (nI V), (nI F), (nI C), (nI s), ft, (nI q), 0, 0, (-1), (nI w), 1, 1, gv, gt, op, a, b, pa, fi, nx, yp, wn, wu, gn, ge, wv, yl, ya, ye, yk, (upd yt s (nI (h + K s h - cz_ s))), yc, yst, yf, yr, ou) := by
  have h7 := (cc_s h1).2
  have h6 := cc_dep h1
  have hh := cf_h ht (cc_FR h1) (by omega)
  obtain ⟨φ', hφ, hk'⟩ := cr_P (P' := ch_ P s (T s h + 2)) hk h7 rfl hd
  refine cr_mkA hφ (cc_fr ht h1 (by omega) (by omega) (fun _ _ _ => rfl) (fun _ _ _ => rfl) ca_r ca_r ca_r ca_r ca_r ca_r ca_r ca_r ca_r ca_c (ca_u ca_r (by omega) (by omega)) ca_r (ca_u ca_r (by omega) (by omega)) ca_r) ⟨⟨hK, ?_, hsh⟩, pk_us, pk_us, hx, hy⟩ hk' hv
  rw [ch_s]; exact Nat.le_refl _
/-- strand s gives the turn back -/
theorem cr_leave {d m wd : Nat} {val vy : Int64} (ht : (ct_all op a b fi nx pa N oc pc E lv kd SC)) (h1 : (cc_C N oc pc E lv kd a b SC F C V D K T fN fX fS fT fL yl ya ye yk P H dep xh xc yt yc fn fe gn ge vn vo vv wn wu wv xst xf xr yst yf yr Q k s h)) (hK : K s h ≤ dep) (hk : (cr_K φ fu q w F C P pv ou)) (h0 : 1 ≤ s) (hw : wd = 0 ∨ wd = 2) (hm : m + d ≤ P s) (hSu : wd = 0 → (cs_S N oc pc E lv kd a b SC F C V D K T fN fX fS fT fL yl ya ye yk (ch_ P s m) (ch_ H s h) dep xh xc yt yc s)) (hv : cv_R F C val vy) :
    ∃ r j, r < 7 ∧ r ≠ s ∧ xr s = nI r ∧ yr s = nI r ∧ xh r = nI (j + 1) ∧ yt r = nI (j + K r j - cz_ r + 1) ∧ j + K r j - cz_ r < 112 ∧
      cr_T op a b fi nx pa N oc pc E lv kd SC dep fu xN xL xp xl xo yN yi yo yp φ d ((nI dep), (nI fu), xN, xL, (nI F), (nI V), (nI C), (nI r), (-2), val, ec, en, ft, (nI q), (nI w), op, a, b, xp, fi, xl, nx, xo, fn, fe, vn, vo, vv, (upd xst s (nI wd)), xf, xr, (upd xh r (nI j)), xc, fN, fX, fS, fT, fL, pv) ((nI dep), (nI fu), yN, yi, yo, (nI V), (nI F), (nI C), (nI r), ft, (nI q), 0, 0, (-1), (nI w), 1, 1, gv, vy, op, a, b, pa, fi, nx, yp, wn, wu, gn, ge, wv, yl, ya, ye, yk, (upd yt r (nI (j + K r j - cz_ r))), yc, (upd yst s (nI wd)), yf, yr, ou) := by
  have h7 := (cc_s h1).2
  have h6 := cc_dep h1
  have hh := cf_h ht (cc_FR h1) (by omega)
  obtain ⟨φ', hφ, hk'⟩ := cr_P (P' := ch_ P s m) hk h7 rfl hm
  have h2 : (cc_C N oc pc E lv kd a b SC F C V D K T fN fX fS fT fL yl ya ye yk (ch_ P s m) H dep xh xc yt yc fn fe gn ge vn vo vv wn wu wv xst xf xr yst yf yr Q k s h) := cc_fr ht h1 (by omega) (by omega) (fun _ _ _ => rfl) (fun _ _ _ => rfl) ca_r ca_r ca_r ca_r ca_r ca_r ca_r ca_r ca_r ca_c ca_r ca_r ca_r ca_r
  have hk1 : ∃ n, k = n + 1 := by
    rcases Nat.eq_zero_or_pos k with hz | hz
    · have e1 := h1.1.2.2.2.2.2
      have e2 := h1.2.2.2.2.1.1
      rw [hz] at e1; omega
    · exact ⟨k - 1, by omega⟩
  obtain ⟨n, hn⟩ := hk1
  obtain ⟨g1, _, g3, g4, g5, g6, g7⟩ := cc_lv h2 hn (w := wd) (by omega) (by omega) hSu
  obtain ⟨e1, ⟨e2, e3, e4, e5, e6⟩, ⟨e7, e8, e9, e10⟩, _⟩ := g7
  refine ⟨Q n, H (Q n), g4, g3, g5, g6, e7, ?_, by omega, ?_⟩
  · rw [e8]; exact congrArg nI (by omega)
  · refine cr_mkA hφ (cc_fr ht g1 (by omega) (by have := cf_h ht e1 (by omega); omega) (fun _ _ _ => rfl) (fun _ _ _ => rfl) ca_r ca_r ca_r ca_r ca_r ca_r ca_r ca_r ca_r ca_r (ca_u ca_r (by omega) (by omega)) ca_r (ca_u ca_r (by omega) (by omega)) ca_r) ⟨⟨e2, e4, fun h => by rw [cz_1 h] at e3; exact e3⟩, pk_us, pk_us, e9, e10⟩ hk' hv
/-- an error is raised -/
theorem cr_raise {d : Nat} (ht : (ct_all op a b fi nx pa N oc pc E lv kd SC)) (h1 : (cc_C N oc pc E lv kd a b SC F C V D K T fN fX fS fT fL yl ya ye yk P H dep xh xc yt yc fn fe gn ge vn vo vv wn wu wv xst xf xr yst yf yr Q k s h)) (hK : K s h ≤ dep) (hk : (cr_K φ fu q w F C P pv ou)) (hd : d ≤ P s) (hdφ : d ≤ φ) (code nd : Int32) :
    ∃ u' v', (∀ post : SX → Prop, post u' → wpX_raise post ((nI dep), (nI fu), xN, xL, (nI F), (nI V), (nI C), (nI s), ph, cr, ec, en, ft, (nI q), (nI w), op, a, b, xp, fi, xl, nx, xo, fn, fe, vn, vo, vv, xst, xf, xr, xh, xc, fN, fX, fS, fT, fL, pv) code nd) ∧ (∀ post : SY → Prop, post v' → wpY_raise post ((nI dep), (nI fu), yN, yi, yo, (nI V), (nI F), (nI C), (nI s), ft, (nI q), 0, 0, (-1), (nI w), 1, hs, gv, gt, op, a, b, pa, fi, nx, yp, wn, wu, gn, ge, wv, yl, ya, ye, yk, yt, yc, yst, yf, yr, ou) code nd) ∧ cr_T op a b fi nx pa N oc pc E lv kd SC dep fu xN xL xp xl xo yN yi yo yp φ d u' v' := by
  rcases Nat.eq_zero_or_pos s with hz | hz
  · subst hz
    exact ⟨_, _, fun post K => x_raise0 K, fun post K => y_raise0 K, cr_mkE hdφ h1.1.1 h1.1.2.1 (by have := hk.1.2.2.2; omega) (by decide) ⟨1, by omega, rfl, rfl, fun h => by omega, fun _ => ⟨rfl, rfl⟩, fun h => absurd rfl h⟩ hk.2⟩
  · obtain ⟨r, j, g1, g2, g3, g4, g5, g6, g7, g8⟩ := cr_leave (m := 0) (wd := 2) (d := d) (ft := code) ht h1 hK hk hz (Or.inr rfl) (by omega) (fun h => by omega) cv_nil
    exact ⟨_, _, fun post K => x_raise1 hz (cc_s h1).2 g1 g3 g5 K, fun post K => y_raise1 hz (cc_s h1).2 g1 g4 g6 K, g8⟩
theorem cr_beat {P' : Nat → Nat} {m d : Nat} (h : (cr_K φ fu q w F C P pv ou)) (hs7 : s < 7) (hq : q < fu) (hP : P' = ch_ P s m) (hd : m + d ≤ P s + 400) : ∃ φ', φ' + d ≤ φ ∧ (cr_K φ' fu (q + 1) w F C P' pv ou) := by
  obtain ⟨⟨h1, h2, h3, h4⟩, h5⟩ := h
  have hm := sm_u (f := P) (s := s) (v := m) 7 hs7
  have e : sm_ P' 7 = sm_ (fun r => if r = s then m else P r) 7 := by rw [hP]; rfl
  refine ⟨400 * (fu - (q + 1)) + sm_ P' 7, by omega, ⟨by omega, h2, rfl, by omega⟩, h5⟩
/-- the fuel is used up -/
theorem cr_fuel {d : Nat} (hF : F ≤ 40) (hC : C ≤ 6) (hk : (cr_K φ fu q w F C P pv ou)) (hd : d ≤ φ) : cr_T op a b fi nx pa N oc pc E lv kd SC dep fu xN xL xp xl xo yN yi yo yp φ d ((nI dep), (nI fu), xN, xL, (nI F), (nI V), (nI C), (nI s), 2, cr, ec, en, ft, (nI q), (nI w), op, a, b, xp, fi, xl, nx, xo, fn, fe, vn, vo, vv, xst, xf, xr, xh, xc, fN, fX, fS, fT, fL, pv) ((nI dep), (nI fu), yN, yi, yo, (nI V), (nI F), (nI C), (nI s), ft, (nI q), 2, 0, (-1), (nI w), 0, hs, 4294967296, gt, op, a, b, pa, fi, nx, yp, wn, wu, gn, ge, wv, yl, ya, ye, yk, yt, yc, yst, yf, yr, ou) :=
  cr_mkE hd hF hC (by have := hk.1.2.2.2; omega) (by decide) ⟨2, by omega, rfl, rfl, fun h => by omega, fun h => by omega, fun _ => ⟨rfl, rfl⟩⟩ hk.2
theorem cr_Kmono {F' C' : Nat} (h : (cr_K φ fu q w F C P pv ou)) (hF : F ≤ F') (hC : C ≤ C') : (cr_K φ fu q w F' C' P pv ou) := ⟨h.1, fun j h1 h2 => cv_mono hF hC (h.2 j h1 h2)⟩
end
end
section
section
variable {op a b fi nx pa : Nat → Int32} {N : Nat} {oc pc E lv : Nat → Nat} {kd : Nat → Nat → Nat} {SC : Nat → Int32 → Prop}
variable {F C V : Nat} {D : Nat → Int32 → Prop} {K T : Nat → Nat → Nat} {fN fX fS fT : Nat → Int32} {fL : Nat → Int64} {yl ya ye : Nat → Int32} {yk : Nat → Int64} {P H : Nat → Nat} {dep : Nat} {xh xc yt yc fn fe gn ge vn vo : Nat → Int32} {vv : Nat → Int64} {wn wu : Nat → Int32} {wv : Nat → Int64} {xst xf xr yst yf yr : Nat → Int32} {Q : Nat → Nat} {k s h : Nat}
variable {fu : Nat} {xN xL : Int32} {xp xl xo : Nat → Int32} {yN yi yo : Int32} {yp : Nat → Int32}
variable {ph ec en ft : Int32} {cr gv gt : Int64} {q w φ : Nat} {pv ou : Nat → Int64} {hs : Int32}
theorem up_same {f : Nat → Int32} {i : Nat} {x y : Int32} : upd (upd f i x) i y = upd f i y := by
  funext j
  unfold upd
  by_cases h : j = i
  · rw [if_pos h, if_pos h]
  · rw [if_neg h, if_neg h, if_neg h]
/-- both sides find the same variable -/
theorem xy_find {c : Int32} (hV : (cd_V F C V D vn vo vv wn wu wv)) (hV2 : V ≤ 120) : ∀ e, e ≤ V → D e c → ∃ p, p < V ∧ (∀ (post : Int32 → Prop) (n i : Nat), i + e ≤ 120 → post (nI (p + 1)) → wX_findVariable_5 post c (nI dep) (nI fu) xN xL (nI F) (nI V) (nI C) (nI s) ph cr ec en ft (nI q) (nI w) op a b xp fi xl nx xo fn fe vn vo vv xst xf xr xh xc fN fX fS fT fL pv (n + e + 1) (nI e) (nI i)) ∧ (∀ (post : Int32 → Prop) (n : Nat), post (nI p) → wY_find_2 post c (nI dep) (nI fu) yN yi yo (nI V) (nI F) (nI C) (nI s) ft (nI q) 0 0 (-1) (nI w) 1 hs gv gt op a b pa fi nx yp wn wu gn ge wv yl ya ye yk yt yc yst yf yr ou (n + e) (nI e - 1)) := by
  intro e
  induction e using Nat.strongRecOn with
  | _ e ih =>
    intro he hD
    rcases Nat.eq_zero_or_pos e with hz | hz
    · subst hz; exact absurd hD (hV.1 c)
    · obtain ⟨v, rfl⟩ : ∃ v, e = v + 1 := ⟨e - 1, by omega⟩
      obtain ⟨g1, g2, o, g3, g4, g5, g6⟩ := hV.2 v (by omega)
      have e1 := nc_ (n := v + 1) (by omega)
      have e2 := nc_ (n := v) (by omega)
      have w1 := vi_ (n := v + 1) (N := 121) (by omega) (by omega)
      have w2 := vi_ (n := v) (N := 120) (by omega) (by omega)
      by_cases hc : wn v = c
      · refine ⟨v, by omega, fun post n i hi hp => ?_, fun post n hp => ?_⟩
        · refine br_f (nI_ge (b := 120) (by omega) (by omega)) (br_f (nI_ne0 (by omega) (by omega)) ⟨w1, br_t ?_ hp⟩)
          rw [e1, g1]; exact hc
        · rw [nI_pred]
          refine ⟨w2, br_t ?_ hp⟩
          rw [e2]; exact hc
      · obtain ⟨p, hp, hX, hY⟩ := ih o (by omega) (by omega) ((g6 c hD).resolve_left hc)
        refine ⟨p, hp, fun post n i hi hq => ?_, fun post n hq => ?_⟩
        · refine br_f (nI_ge (b := 120) (by omega) (by omega)) (br_f (nI_ne0 (by omega) (by omega)) ⟨w1, br_f ?_ ⟨w1, nm_r (e' := nI o) (by rw [e1]; exact g4) (nm_r (nI_1 i) ?_)⟩⟩)
          · rw [e1, g1]; exact hc
          · have := hX post (n + (v - o)) (i + 1) (by omega) hq
            rw [show n + (v - o) + o + 1 = n + (v + 1) by omega] at this
            exact this
        · rw [nI_pred]
          refine ⟨w2, br_f ?_ ⟨w2, nm_r (e' := nI o - 1) (by rw [e2]; exact g5) ?_⟩⟩
          · rw [e2]; exact hc
          · have := hY post (n + (v - o)) hq
            rw [show n + (v - o) + o = n + v by omega] at this
            exact this
/-- a value is carried at once -/
theorem cr_now {d : Nat} (ht : (ct_all op a b fi nx pa N oc pc E lv kd SC)) (h1 : (cc_C N oc pc E lv kd a b SC F C V D K T fN fX fS fT fL yl ya ye yk P H dep xh xc yt yc fn fe gn ge vn vo vv wn wu wv xst xf xr yst yf yr Q k s h)) (hK : K s h ≤ dep) (hxh : xh s = nI h) (hyt : yt s = nI (h + K s h - cz_ s)) (hx : xc s = nI (K s h)) (hy : yc s = nI (K s h)) (hsh : 1 ≤ s → 1 ≤ h) (hk : (cr_K φ fu q w F C P pv ou)) (hd : T s h + 2 + d ≤ P s) (hv : cv_R F C cr gt) :
    cr_T op a b fi nx pa N oc pc E lv kd SC dep fu xN xL xp xl xo yN yi yo yp φ d ((nI dep), (nI fu), xN, xL, (nI F), (nI V), (nI C), (nI s), (-2), cr, ec, en, ft, (nI q), (nI w), op, a, b, xp, fi, xl, nx, xo, fn, fe, vn, vo, vv, xst, xf, xr, xh, xc, fN, fX, fS, fT, fL, pv) ((nI dep), (nI fu), yN, yi, yo, (nI V), (nI F), (nI C), (nI s), ft, (nI q), 0, 0, (-1), (nI w), 1, 1, gv, gt, op, a, b, pa, fi, nx, yp, wn, wu, gn, ge, wv, yl, ya, ye, yk, yt, yc, yst, yf, yr, ou) := by
  have h7 := (cc_s h1).2
  have h6 := cc_dep h1
  have hh := cf_h ht (cc_FR h1) (by omega)
  obtain ⟨φ', hφ, hk'⟩ := cr_P (P' := ch_ P s (T s h + 2)) hk h7 rfl hd
  refine cr_mkA hφ (cc_fr ht h1 (by omega) (by omega) (fun _ _ _ => rfl) (fun _ _ _ => rfl) ca_r ca_r ca_r ca_r ca_r ca_r ca_r ca_r ca_r ca_c ca_r ca_r ca_r ca_r) ⟨⟨hK, ?_, hsh⟩, hxh, hyt, hx, hy⟩ hk' hv
  rw [ch_s]; exact Nat.le_refl _
/-- a table with one other entry -/
def kt_ (T : Nat → Nat → Nat) (s j v : Nat) : Nat → Nat → Nat := fun r i => if r = s ∧ i = j then v else T r i
theorem kt_s {T : Nat → Nat → Nat} {s j v : Nat} : kt_ T s j v s j = v := if_pos ⟨rfl, rfl⟩
theorem kt_n {T : Nat → Nat → Nat} {s j v r i : Nat} (h : r ≠ s ∨ i ≠ j) : kt_ T s j v r i = T r i := if_neg (fun z => by omega)
/-- a new frame whose first part is next -/
theorem cr_new {m e k1 d φ' q' : Nat} (ht : (ct_all op a b fi nx pa N oc pc E lv kd SC)) (h1 : (cc_C N oc pc E lv kd a b SC F C V D K T fN fX fS fT fL yl ya ye yk P H dep xh xc yt yc fn fe gn ge vn vo vv wn wu wv xst xf xr yst yf yr Q k s h)) (hK : K s h ≤ dep) (hk1 : k1 = K s h + (if oc m = 10 then 1 else 0)) (hkd : k1 ≤ dep) (hz : cz_ s ≤ k1) (hm : m < N) (ho : oc m < 19) (hp : 0 < pc m) (he : e ≤ V) (hD : ∀ c, ct_in oc a b SC m 0 c → D e c) (hlev : h + 1 + k1 ≤ 16 * k1 + lv m + cz_ s) (hx : xc s = nI k1) (hy : yc s = nI k1)
    (hφ : φ' + d ≤ φ) (hk' : (cr_K φ' fu q' w F C (ch_ P s (T s h + 4 * (E m - kd m 0) + 3)) pv ou)) :
    cr_T op a b fi nx pa N oc pc E lv kd SC dep fu xN xL xp xl xo yN yi yo yp φ d ((nI dep), (nI fu), xN, xL, (nI F), (nI V), (nI C), (nI s), (-1), cr, ec, en, ft, (nI q'), (nI w), op, a, b, xp, fi, xl, nx, xo, fn, fe, vn, vo, vv, xst, xf, xr, (upd xh s (nI (h + 1))), xc, (upd fN (s * 128 + h) (nI m)), (upd fX (s * 128 + h) (nI (kd m 0))), (upd fS (s * 128 + h) (nI e)), (upd fT (s * 128 + h) 0), (vp_updL fL ((s * 128 + h) * 4) 0), pv) ((nI dep), (nI fu), yN, yi, yo, (nI V), (nI F), (nI C), (nI s), ft, (nI q'), 0, 0, (-1), (nI w), 1, 0, gv, gt, op, a, b, pa, fi, nx, yp, wn, wu, gn, ge, wv, (upd yl (112 * s + (h + k1 - cz_ s)) (nI m)), (upd ya (112 * s + (h + k1 - cz_ s)) 0), (upd ye (112 * s + (h + k1 - cz_ s)) (nI e - 1)), yk, (upd yt s (nI (h + 1 + k1 - cz_ s))), yc, yst, yf, yr, ou) := by
  have h7 := (cc_s h1).2
  have h6 := cc_dep h1
  have hh := cf_h ht (cc_FR h1) (by omega)
  have hl := (ht.2.2.2.2 m hm).2.2.2.1.2 (by omega)
  have hzl := cz_le s
  have hkk : K s h ≤ k1 := by omega
  have hcy : cy_ (kt_ K s (h + 1) k1) s h = 112 * s + (h + k1 - cz_ s) := by unfold cy_; rw [kt_s]
  refine cr_mkB (K := kt_ K s (h + 1) k1) (T := kt_ T s (h + 1) (T s h + 4 * (E m - kd m 0) + 3)) (P := ch_ P s (T s h + 4 * (E m - kd m 0) + 3)) hφ (cc_fr ht h1 (by omega) (by omega) (fun r j hr => kt_n (by omega)) (fun r j hr => kt_n (by omega)) (ca_u ca_r (by omega) (by omega)) (ca_u ca_r (by omega) (by omega)) (ca_u ca_r (by omega) (by omega)) (ca_u ca_r (by omega) (by omega)) (ca_l ca_r (by omega) (by omega)) (ca_u ca_r (by omega) (by omega)) (ca_u ca_r (by omega) (by omega)) (ca_u ca_r (by omega) (by omega)) ca_r ca_c (ca_u ca_r (by omega) (by omega)) ca_r (ca_u ca_r (by omega) (by omega)) ca_r) ?_ ⟨⟨?_, ?_⟩, pk_us, ?_, ?_, ?_⟩ hk'
  · refine ⟨m, 0, e, ⟨⟨hm, ho, hp, he⟩, ⟨pk_us, ?_, pk_us⟩, ⟨?_, ?_, ?_⟩, hD, ?_, ?_⟩, pk_us, ?_⟩
    · rw [pk_us]
      have : ct_tk (oc m) 0 = 0 := by unfold ct_tk; split <;> rfl
      rw [this]; rfl
    · rw [hcy, pk_us]
    · rw [hcy, pk_us]; rfl
    · rw [hcy, pk_us]
    · refine ⟨fun _ _ => ?_, fun _ q hq => by omega⟩
      exact pk_uLs
    · rw [kt_s, kt_n (by omega)]; exact ⟨hk1, hz, hlev⟩
    · rw [kt_s, kt_n (by omega)]; exact Nat.le_refl _
  · rw [kt_s]; exact hkd
  · rw [kt_s, ch_s]; exact Nat.le_refl _
  · rw [kt_s]; exact pk_us
  · rw [kt_s]; exact hx
  · rw [kt_s]; exact hy
end
end
section
section
variable {xd xg xN xL xF xV xC xs ph : Int32} {cr : Int64} {ec en ft bt pr : Int32} {op a b xp fi xl nx xo fn fe vn vo : Nat → Int32} {vv : Nat → Int64} {xst xf xr xh xc fN fX fS fT : Nat → Int32} {fL pv : Nat → Int64}
variable {post : SX → Prop}
theorem x_bNum {m : Nat} {sc : Int32} (hm : m < 96) (ho : op m = 20) (K : post (xd, xg, xN, xL, xF, xV, xC, xs, (-2), (lN (cv_n (a m) + 4294967296)), ec, en, ft, bt, pr, op, a, b, xp, fi, xl, nx, xo, fn, fe, vn, vo, vv, xst, xf, xr, xh, xc, fN, fX, fS, fT, fL, pv)) : wpX_begin post (xd, xg, xN, xL, xF, xV, xC, xs, ph, cr, ec, en, ft, bt, pr, op, a, b, xp, fi, xl, nx, xo, fn, fe, vn, vo, vv, xst, xf, xr, xh, xc, fN, fX, fS, fT, fL, pv) (nI m) sc := by
  have em := nc_ (n := m) (by omega)
  have wm := vi_ (n := m) (N := 96) hm (by omega)
  refine ⟨wm, nm_r (e' := op m) (by rw [em]) (br_f (by rw [ho]; decide) (br_t ho ⟨wm, ?_⟩))⟩
  unfold wpX_valueOf
  rw [em, vo_1]
  exact K
theorem x_bName {m : Nat} {sc : Int32} {p : Nat} (hm : m < 96) (ho : op m = 21) (hp : p < 120) (hf : ∀ post : Int32 → Prop, post (nI (p + 1)) → wpX_findVariable post (xd, xg, xN, xL, xF, xV, xC, xs, ph, cr, ec, en, ft, bt, pr, op, a, b, xp, fi, xl, nx, xo, fn, fe, vn, vo, vv, xst, xf, xr, xh, xc, fN, fX, fS, fT, fL, pv) (a m) sc) (K : post (xd, xg, xN, xL, xF, xV, xC, xs, (-2), (vv (p + 1)), ec, en, ft, bt, pr, op, a, b, xp, fi, xl, nx, xo, fn, fe, vn, vo, vv, xst, xf, xr, xh, xc, fN, fX, fS, fT, fL, pv)) : wpX_begin post (xd, xg, xN, xL, xF, xV, xC, xs, ph, cr, ec, en, ft, bt, pr, op, a, b, xp, fi, xl, nx, xo, fn, fe, vn, vo, vv, xst, xf, xr, xh, xc, fN, fX, fS, fT, fL, pv) (nI m) sc := by
  have em := nc_ (n := m) (by omega)
  have ep := nc_ (n := p + 1) (by omega)
  have wm := vi_ (n := m) (N := 96) hm (by omega)
  have w := vi_ (n := p + 1) (N := 121) (by omega) (by omega)
  refine ⟨wm, nm_r (e' := op m) (by rw [em]) (br_f (by rw [ho]; decide) (br_f (by rw [ho]; decide) (br_t ho ⟨wm, ?_⟩)))⟩
  rw [em]
  exact hf _ ⟨w, nm_r (e' := vv (p + 1)) (by rw [ep]) K⟩
theorem x_bFun {m F : Nat} {sc : Int32} (hm : m < 96) (ho : op m = 10) (hF : F < 40) (K : post (xd, xg, xN, xL, (nI (F + 1)), xV, xC, xs, (-2), (lN (8589934592 + F)), ec, en, ft, bt, pr, op, a, b, xp, fi, xl, nx, xo, (upd fn F (nI m)), (upd fe F sc), vn, vo, vv, xst, xf, xr, xh, xc, fN, fX, fS, fT, fL, pv)) : wpX_begin post (xd, xg, xN, xL, (nI F), xV, xC, xs, ph, cr, ec, en, ft, bt, pr, op, a, b, xp, fi, xl, nx, xo, fn, fe, vn, vo, vv, xst, xf, xr, xh, xc, fN, fX, fS, fT, fL, pv) (nI m) sc := by
  have em := nc_ (n := m) (by omega)
  have eF := nc_ (n := F) (by omega)
  have wm := vi_ (n := m) (N := 96) hm (by omega)
  have w := vi_ (n := F) (N := 40) hF (by omega)
  refine ⟨wm, nm_r (e' := op m) (by rw [em]) (br_t ho (br_t (nI_lt (b := 40) hF (by omega)) ⟨w, nm_r (e' := upd fn F (nI m)) (by rw [eF]) ⟨w, nm_r (e' := upd fe F sc) (by rw [eF]) ?_⟩⟩))⟩
  unfold wpX_valueOf
  rw [vo_2 (by omega)]
  exact nm_r (nI_1 F) K
theorem x_bFun7 {m : Nat} {sc : Int32} (hm : m < 96) (ho : op m = 10) (K : wpX_raise post (xd, xg, xN, xL, (nI 40), xV, xC, xs, ph, cr, ec, en, ft, bt, pr, op, a, b, xp, fi, xl, nx, xo, fn, fe, vn, vo, vv, xst, xf, xr, xh, xc, fN, fX, fS, fT, fL, pv) 7 (nI m)) : wpX_begin post (xd, xg, xN, xL, (nI 40), xV, xC, xs, ph, cr, ec, en, ft, bt, pr, op, a, b, xp, fi, xl, nx, xo, fn, fe, vn, vo, vv, xst, xf, xr, xh, xc, fN, fX, fS, fT, fL, pv) (nI m) sc := by
  have em := nc_ (n := m) (by omega)
  have wm := vi_ (n := m) (N := 96) hm (by omega)
  exact ⟨wm, nm_r (e' := op m) (by rw [em]) (br_t ho (br_f (by decide) K))⟩
theorem x_bPush {s h m o : Nat} {sc z : Int32} (hs : s < 7) (hh : xh s = nI h) (hb : h < 128) (hm : m < 96) (ho : op m = nI o) (ho1 : o < 20) (ho2 : o ≠ 10) (hz1 : op m = 7 → z = -1) (hz2 : ¬ op m = 7 → z = fi m)
    (K : post (xd, xg, xN, xL, xF, xV, xC, (nI s), ph, cr, ec, en, ft, bt, pr, op, a, b, xp, fi, xl, nx, xo, fn, fe, vn, vo, vv, xst, xf, xr, (upd xh s (nI (h + 1))), xc, (upd fN (s * 128 + h) (nI m)), (upd fX (s * 128 + h) z), (upd fS (s * 128 + h) sc), (upd fT (s * 128 + h) 0), (vp_updL fL ((s * 128 + h) * 4) 0), pv)) : wpX_begin post (xd, xg, xN, xL, xF, xV, xC, (nI s), ph, cr, ec, en, ft, bt, pr, op, a, b, xp, fi, xl, nx, xo, fn, fe, vn, vo, vv, xst, xf, xr, xh, xc, fN, fX, fS, fT, fL, pv) (nI m) sc := by
  have em := nc_ (n := m) (by omega)
  have wm := vi_ (n := m) (N := 96) hm (by omega)
  have ne : ∀ j, j < 30 → j ≠ o → ¬ op m = nI j := by
    intro j hj hjo e
    rw [ho] at e
    have := (nI_eq (by omega) (by omega)).mp e
    omega
  exact ⟨wm, nm_r (e' := op m) (by rw [em]) (br_f (ne 10 (by omega) (by omega)) (br_f (ne 20 (by omega) (by omega)) (br_f (ne 21 (by omega) (by omega)) (x_push hs hh hb hm hz1 hz2 K))))⟩
/-- a frame without a next part ends: to conclude -/
theorem x_adv1 {s h : Nat} (hs : s < 7) (hh : xh s = nI (h + 1)) (hb : h < 128) (hx : fX (s * 128 + h) = -1) (K : wpX_conclude post (xd, xg, xN, xL, xF, xV, xC, (nI s), ph, cr, ec, en, ft, bt, pr, op, a, b, xp, fi, xl, nx, xo, fn, fe, vn, vo, vv, xst, xf, xr, xh, xc, fN, fX, fS, fT, fL, pv) (nI (s * 128 + h))) : wpX_advance post (xd, xg, xN, xL, xF, xV, xC, (nI s), ph, cr, ec, en, ft, bt, pr, op, a, b, xp, fi, xl, nx, xo, fn, fe, vn, vo, vv, xst, xf, xr, xh, xc, fN, fX, fS, fT, fL, pv) := by
  have ei := nc_ (n := s * 128 + h) (by omega)
  have wi := vi_ (n := s * 128 + h) (N := 896) (by omega) (by omega)
  unfold wpX_advance
  dsimp only
  refine x_top hs hh ?_
  exact ⟨wi, nm_r (e' := fX (s * 128 + h)) (by rw [ei]) (br_t hx K)⟩
/-- conclude, down to the kind of list -/
theorem x_con19 {s h m : Nat} (hs : s < 7) (hh : xh s = nI (h + 1)) (hb : h < 128) (hn : fN (s * 128 + h) = nI m) (hm : m < 96) (ho : op m = 19) (K : post (xd, xg, xN, xL, xF, xV, xC, (nI s), (-2), (lN (cv_n ft + 4294967296)), ec, en, ft, bt, pr, op, a, b, xp, fi, xl, nx, xo, fn, fe, vn, vo, vv, xst, xf, xr, (upd xh s (nI h)), xc, fN, fX, fS, fT, fL, pv)) : wpX_conclude post (xd, xg, xN, xL, xF, xV, xC, (nI s), ph, cr, ec, en, ft, bt, pr, op, a, b, xp, fi, xl, nx, xo, fn, fe, vn, vo, vv, xst, xf, xr, xh, xc, fN, fX, fS, fT, fL, pv) (nI (s * 128 + h)) := by
  have ei := nc_ (n := s * 128 + h) (by omega)
  have em := nc_ (n := m) (by omega)
  have wm := vi_ (n := m) (N := 96) hm (by omega)
  have wi := vi_ (n := s * 128 + h) (N := 896) (by omega) (by omega)
  have w4 : vp_in (nI (s * 128 + h) * 4) 3584 := by rw [ix_4]; exact vi_ (by omega) (by omega)
  refine ⟨wi, ?_, nm_r (e' := op m) (by rw [ei, hn, em]) ⟨w4, nm_e ?_⟩⟩
  · rw [ei, hn]; exact wm
  · rw [ho]
    exact br_f (by decide) (br_f (by decide) (br_f (by decide) (br_f (by decide) (br_f (by decide) (br_f (by decide) (br_f (by decide) (br_f (by decide) (br_f (by decide) (br_f (by decide) (br_f (by decide) (br_f (by decide) (br_f (by decide) (br_f (by decide) (br_f (by decide) (br_f (by decide) (br_f (by decide) (br_t rfl (x_num hs hh K))))))))))))))))))
theorem x_con6 {s h m : Nat} (hs : s < 7) (hh : xh s = nI (h + 1)) (hb : h < 128) (hn : fN (s * 128 + h) = nI m) (hm : m < 96) (ho : op m = 6) (K : post (xd, xg, xN, xL, xF, xV, xC, (nI s), (-2), (fL ((s * 128 + h) * 4)), ec, en, ft, bt, pr, op, a, b, xp, fi, xl, nx, xo, fn, fe, vn, vo, vv, xst, xf, xr, (upd xh s (nI h)), xc, fN, fX, fS, fT, fL, pv)) : wpX_conclude post (xd, xg, xN, xL, xF, xV, xC, (nI s), ph, cr, ec, en, ft, bt, pr, op, a, b, xp, fi, xl, nx, xo, fn, fe, vn, vo, vv, xst, xf, xr, xh, xc, fN, fX, fS, fT, fL, pv) (nI (s * 128 + h)) := by
  have ei := nc_ (n := s * 128 + h) (by omega)
  have e4 := nc_ (n := (s * 128 + h) * 4) (by omega)
  have em := nc_ (n := m) (by omega)
  have wm := vi_ (n := m) (N := 96) hm (by omega)
  have wi := vi_ (n := s * 128 + h) (N := 896) (by omega) (by omega)
  have w4 : vp_in (nI (s * 128 + h) * 4) 3584 := by rw [ix_4]; exact vi_ (by omega) (by omega)
  refine ⟨wi, ?_, nm_r (e' := op m) (by rw [ei, hn, em]) ⟨w4, nm_r (e' := fL ((s * 128 + h) * 4)) (by rw [ix_4, e4]) ?_⟩⟩
  · rw [ei, hn]; exact wm
  · rw [ho]
    exact br_f (by decide) (br_f (by decide) (br_f (by decide) (br_f (by decide) (br_t rfl (x_finish hs hh K)))))
theorem x_con7 {s h m : Nat} (hs : s < 7) (hb : h < 128) (hn : fN (s * 128 + h) = nI m) (hm : m < 96) (ho : op m = 7) (K : wpX_startRound post (xd, xg, xN, xL, xF, xV, xC, (nI s), ph, cr, ec, en, ft, bt, pr, op, a, b, xp, fi, xl, nx, xo, fn, fe, vn, vo, vv, xst, xf, xr, xh, xc, fN, fX, fS, fT, fL, pv) (nI (s * 128 + h))) : wpX_conclude post (xd, xg, xN, xL, xF, xV, xC, (nI s), ph, cr, ec, en, ft, bt, pr, op, a, b, xp, fi, xl, nx, xo, fn, fe, vn, vo, vv, xst, xf, xr, xh, xc, fN, fX, fS, fT, fL, pv) (nI (s * 128 + h)) := by
  have ei := nc_ (n := s * 128 + h) (by omega)
  have em := nc_ (n := m) (by omega)
  have wm := vi_ (n := m) (N := 96) hm (by omega)
  have wi := vi_ (n := s * 128 + h) (N := 896) (by omega) (by omega)
  have w4 : vp_in (nI (s * 128 + h) * 4) 3584 := by rw [ix_4]; exact vi_ (by omega) (by omega)
  refine ⟨wi, ?_, nm_r (e' := op m) (by rw [ei, hn, em]) ⟨w4, nm_e ?_⟩⟩
  · rw [ei, hn]; exact wm
  · rw [ho]
    exact br_f (by decide) (br_f (by decide) (br_f (by decide) (br_f (by decide) (br_f (by decide) (br_t rfl K)))))
theorem x_round1 {s h m q g : Nat} (hs : s < 7) (hb : h < 128) (hn : fN (s * 128 + h) = nI m) (hm : m < 96) (hq : q < g) (hg : g < 1000) (K : post (xd, (nI g), xN, xL, xF, xV, xC, (nI s), ph, cr, ec, en, ft, (nI (q + 1)), pr, op, a, b, xp, fi, xl, nx, xo, fn, fe, vn, vo, vv, xst, xf, xr, xh, xc, fN, (upd fX (s * 128 + h) (fi m)), fS, (upd fT (s * 128 + h) 0), fL, pv)) : wpX_startRound post (xd, (nI g), xN, xL, xF, xV, xC, (nI s), ph, cr, ec, en, ft, (nI q), pr, op, a, b, xp, fi, xl, nx, xo, fn, fe, vn, vo, vv, xst, xf, xr, xh, xc, fN, fX, fS, fT, fL, pv) (nI (s * 128 + h)) := by
  have ei := nc_ (n := s * 128 + h) (by omega)
  have em := nc_ (n := m) (by omega)
  have wm := vi_ (n := m) (N := 96) hm (by omega)
  have wi := vi_ (n := s * 128 + h) (N := 896) (by omega) (by omega)
  unfold wpX_startRound
  dsimp only
  refine x_beat1 hq hg ?_
  dsimp only
  refine (br_f (by decide) ⟨wi, ?_, wi, nm_r (e' := upd fX (s * 128 + h) (fi m)) (by rw [ei, hn, em]) ⟨wi, nm_r (e' := upd fT (s * 128 + h) 0) (by rw [ei]) K⟩⟩)
  rw [ei, hn]; exact wm
theorem x_round0 {s g : Nat} {i : Int32} (hg : g < 1000) (K : post (xd, (nI g), xN, xL, xF, xV, xC, (nI s), 2, cr, ec, en, ft, (nI g), pr, op, a, b, xp, fi, xl, nx, xo, fn, fe, vn, vo, vv, xst, xf, xr, xh, xc, fN, fX, fS, fT, fL, pv)) : wpX_startRound post (xd, (nI g), xN, xL, xF, xV, xC, (nI s), ph, cr, ec, en, ft, (nI g), pr, op, a, b, xp, fi, xl, nx, xo, fn, fe, vn, vo, vv, xst, xf, xr, xh, xc, fN, fX, fS, fT, fL, pv) i := by
  unfold wpX_startRound
  dsimp only
  refine x_beat0 hg ?_
  exact br_t rfl K
end
section
variable {yd yg yN yi yo yV yF yC ys yft ybt res yer ypl ypr rn hs : Int32} {gv gt : Int64} {op a b pa fi nx yp wn wu gn ge : Nat → Int32} {wv : Nat → Int64} {yl ya ye : Nat → Int32} {yk : Nat → Int64} {yt yc yst yf yr : Nat → Int32} {ou : Nat → Int64}
variable {post : SY → Prop}
theorem y_eNum {m : Nat} {sc : Int32} (hm : m < 96) (ho : op m = 20) (K : post (yd, yg, yN, yi, yo, yV, yF, yC, ys, yft, ybt, res, yer, ypl, ypr, rn, 1, gv, (lN (cv_n (a m))), op, a, b, pa, fi, nx, yp, wn, wu, gn, ge, wv, yl, ya, ye, yk, yt, yc, yst, yf, yr, ou)) : wpY_evaluate post (yd, yg, yN, yi, yo, yV, yF, yC, ys, yft, ybt, res, yer, ypl, ypr, rn, hs, gv, gt, op, a, b, pa, fi, nx, yp, wn, wu, gn, ge, wv, yl, ya, ye, yk, yt, yc, yst, yf, yr, ou) (nI m) sc := by
  have em := nc_ (n := m) (by omega)
  have wm := vi_ (n := m) (N := 96) hm (by omega)
  refine ⟨wm, nm_r (e' := op m) (by rw [em]) (br_t ho ⟨wm, ?_⟩)⟩
  rw [em, vo_and]
  exact K
theorem y_eName {m p : Nat} {sc : Int32} (hm : m < 96) (ho : op m = 21) (hp : p < 120) (hf : ∀ post : Int32 → Prop, post (nI p) → wpY_find post (yd, yg, yN, yi, yo, yV, yF, yC, ys, yft, ybt, res, yer, ypl, ypr, rn, hs, gv, gt, op, a, b, pa, fi, nx, yp, wn, wu, gn, ge, wv, yl, ya, ye, yk, yt, yc, yst, yf, yr, ou) (a m) sc) (K : post (yd, yg, yN, yi, yo, yV, yF, yC, ys, yft, ybt, res, yer, ypl, ypr, rn, 1, gv, (wv p), op, a, b, pa, fi, nx, yp, wn, wu, gn, ge, wv, yl, ya, ye, yk, yt, yc, yst, yf, yr, ou)) : wpY_evaluate post (yd, yg, yN, yi, yo, yV, yF, yC, ys, yft, ybt, res, yer, ypl, ypr, rn, hs, gv, gt, op, a, b, pa, fi, nx, yp, wn, wu, gn, ge, wv, yl, ya, ye, yk, yt, yc, yst, yf, yr, ou) (nI m) sc := by
  have em := nc_ (n := m) (by omega)
  have ep := nc_ (n := p) (by omega)
  have wm := vi_ (n := m) (N := 96) hm (by omega)
  have w := vi_ (n := p) (N := 120) (by omega) (by omega)
  refine ⟨wm, nm_r (e' := op m) (by rw [em]) (br_f (by rw [ho]; decide) (br_t ho ⟨wm, ?_⟩))⟩
  rw [em]
  refine hf _ ⟨w, ?_⟩
  rw [ep]
  exact K
theorem y_eFun {m F : Nat} {sc : Int32} (hm : m < 96) (ho : op m = 10) (hF : F < 40) (K : post (yd, yg, yN, yi, yo, yV, (nI (F + 1)), yC, ys, yft, ybt, res, yer, ypl, ypr, rn, 1, gv, (lN (8589934592 + F)), op, a, b, pa, fi, nx, yp, wn, wu, (upd gn F (nI m)), (upd ge F sc), wv, yl, ya, ye, yk, yt, yc, yst, yf, yr, ou)) : wpY_evaluate post (yd, yg, yN, yi, yo, yV, (nI F), yC, ys, yft, ybt, res, yer, ypl, ypr, rn, hs, gv, gt, op, a, b, pa, fi, nx, yp, wn, wu, gn, ge, wv, yl, ya, ye, yk, yt, yc, yst, yf, yr, ou) (nI m) sc := by
  have em := nc_ (n := m) (by omega)
  have eF := nc_ (n := F) (by omega)
  have wm := vi_ (n := m) (N := 96) hm (by omega)
  have w := vi_ (n := F) (N := 40) hF (by omega)
  refine ⟨wm, nm_r (e' := op m) (by rw [em]) (br_f (by rw [ho]; decide) (br_f (by rw [ho]; decide) (br_t ho (br_f (fun z => ?_) ⟨w, nm_r (e' := upd gn F (nI m)) (by rw [eF]) ⟨w, nm_r (e' := upd ge F sc) (by rw [eF]) (nm_r (nI_1 F) ?_)⟩⟩))))⟩
  · have := (nI_eq (a := F) (b := 40) (by omega) (by omega)).mp z
    omega
  · rw [vo_f (by omega)]
    exact K
theorem y_eFun7 {m : Nat} {sc : Int32} (hm : m < 96) (ho : op m = 10) (K : wpY_raise post (yd, yg, yN, yi, yo, yV, (nI 40), yC, ys, yft, ybt, res, yer, ypl, ypr, rn, hs, gv, gt, op, a, b, pa, fi, nx, yp, wn, wu, gn, ge, wv, yl, ya, ye, yk, yt, yc, yst, yf, yr, ou) 7 (nI m)) : wpY_evaluate post (yd, yg, yN, yi, yo, yV, (nI 40), yC, ys, yft, ybt, res, yer, ypl, ypr, rn, hs, gv, gt, op, a, b, pa, fi, nx, yp, wn, wu, gn, ge, wv, yl, ya, ye, yk, yt, yc, yst, yf, yr, ou) (nI m) sc := by
  have em := nc_ (n := m) (by omega)
  have wm := vi_ (n := m) (N := 96) hm (by omega)
  exact ⟨wm, nm_r (e' := op m) (by rw [em]) (br_f (by rw [ho]; decide) (br_f (by rw [ho]; decide) (br_t ho (br_t rfl K))))⟩
theorem y_eFault {m : Nat} {sc : Int32} (hm : m < 96) (ho : op m = 19) (K : post (yd, yg, yN, yi, yo, yV, yF, yC, ys, yft, ybt, res, yer, ypl, ypr, rn, 1, gv, (lN (cv_n yft)), op, a, b, pa, fi, nx, yp, wn, wu, gn, ge, wv, yl, ya, ye, yk, yt, yc, yst, yf, yr, ou)) : wpY_evaluate post (yd, yg, yN, yi, yo, yV, yF, yC, ys, yft, ybt, res, yer, ypl, ypr, rn, hs, gv, gt, op, a, b, pa, fi, nx, yp, wn, wu, gn, ge, wv, yl, ya, ye, yk, yt, yc, yst, yf, yr, ou) (nI m) sc := by
  have em := nc_ (n := m) (by omega)
  have wm := vi_ (n := m) (N := 96) hm (by omega)
  refine ⟨wm, nm_r (e' := op m) (by rw [em]) (br_f (by rw [ho]; decide) (br_f (by rw [ho]; decide) (br_f (by rw [ho]; decide) (br_t ho ?_))))⟩
  rw [vo_and]
  exact K
theorem y_eSeq0 {m : Nat} {sc : Int32} (hm : m < 96) (ho : op m = 6) (hp : yp m = 0) (K : post (yd, yg, yN, yi, yo, yV, yF, yC, ys, yft, ybt, res, yer, ypl, ypr, rn, 1, gv, 4294967296, op, a, b, pa, fi, nx, yp, wn, wu, gn, ge, wv, yl, ya, ye, yk, yt, yc, yst, yf, yr, ou)) : wpY_evaluate post (yd, yg, yN, yi, yo, yV, yF, yC, ys, yft, ybt, res, yer, ypl, ypr, rn, hs, gv, gt, op, a, b, pa, fi, nx, yp, wn, wu, gn, ge, wv, yl, ya, ye, yk, yt, yc, yst, yf, yr, ou) (nI m) sc := by
  have em := nc_ (n := m) (by omega)
  have wm := vi_ (n := m) (N := 96) hm (by omega)
  exact ⟨wm, nm_r (e' := op m) (by rw [em]) (br_f (by rw [ho]; decide) (br_f (by rw [ho]; decide) (br_f (by rw [ho]; decide) (br_f (by rw [ho]; decide) (br_t ho ⟨wm, br_t (by rw [em]; exact hp) K⟩)))))⟩
theorem y_eWh1 {s w m q g : Nat} {sc : Int32} (hm : m < 96) (ho : op m = 7) (hq : q < g) (hg : g < 1000) (h7 : s < 7) (ht : yt s = nI w) (hw : w < 112) (K : post (yd, (nI g), yN, yi, yo, yV, yF, yC, (nI s), yft, (nI (q + 1)), res, yer, ypl, ypr, rn, hs, gv, gt, op, a, b, pa, fi, nx, yp, wn, wu, gn, ge, wv, (upd yl (112 * s + w) (nI m)), (upd ya (112 * s + w) 0), (upd ye (112 * s + w) sc), yk, (upd yt s (nI (w + 1))), yc, yst, yf, yr, ou)) : wpY_evaluate post (yd, (nI g), yN, yi, yo, yV, yF, yC, (nI s), yft, (nI q), res, yer, ypl, ypr, rn, hs, gv, gt, op, a, b, pa, fi, nx, yp, wn, wu, gn, ge, wv, yl, ya, ye, yk, yt, yc, yst, yf, yr, ou) (nI m) sc := by
  have em := nc_ (n := m) (by omega)
  have wm := vi_ (n := m) (N := 96) hm (by omega)
  exact ⟨wm, nm_r (e' := op m) (by rw [em]) (br_f (by rw [ho]; decide) (br_f (by rw [ho]; decide) (br_f (by rw [ho]; decide) (br_f (by rw [ho]; decide) (br_f (by rw [ho]; decide) (br_t ho (y_beat1 hq hg (br_f (by decide) (y_push h7 ht hw K)))))))))⟩
theorem y_eWh0 {s m g : Nat} {sc : Int32} (hm : m < 96) (ho : op m = 7) (K : post (yd, (nI g), yN, yi, yo, yV, yF, yC, (nI s), yft, (nI g), 2, yer, ypl, ypr, 0, hs, 4294967296, gt, op, a, b, pa, fi, nx, yp, wn, wu, gn, ge, wv, yl, ya, ye, yk, yt, yc, yst, yf, yr, ou)) : wpY_evaluate post (yd, (nI g), yN, yi, yo, yV, yF, yC, (nI s), yft, (nI g), res, yer, ypl, ypr, rn, hs, gv, gt, op, a, b, pa, fi, nx, yp, wn, wu, gn, ge, wv, yl, ya, ye, yk, yt, yc, yst, yf, yr, ou) (nI m) sc := by
  have em := nc_ (n := m) (by omega)
  have wm := vi_ (n := m) (N := 96) hm (by omega)
  exact ⟨wm, nm_r (e' := op m) (by rw [em]) (br_f (by rw [ho]; decide) (br_f (by rw [ho]; decide) (br_f (by rw [ho]; decide) (br_f (by rw [ho]; decide) (br_f (by rw [ho]; decide) (br_t ho (y_beat0 (br_t rfl K))))))))⟩
theorem y_ePush {s w m o : Nat} {sc : Int32} (hm : m < 96) (ho : op m = nI o) (ho1 : o < 19) (ho2 : o ≠ 10) (ho3 : o ≠ 7) (hp : ¬ yp m = 0) (h7 : s < 7) (ht : yt s = nI w) (hw : w < 112) (K : post (yd, yg, yN, yi, yo, yV, yF, yC, (nI s), yft, ybt, res, yer, ypl, ypr, rn, hs, gv, gt, op, a, b, pa, fi, nx, yp, wn, wu, gn, ge, wv, (upd yl (112 * s + w) (nI m)), (upd ya (112 * s + w) 0), (upd ye (112 * s + w) sc), yk, (upd yt s (nI (w + 1))), yc, yst, yf, yr, ou)) : wpY_evaluate post (yd, yg, yN, yi, yo, yV, yF, yC, (nI s), yft, ybt, res, yer, ypl, ypr, rn, hs, gv, gt, op, a, b, pa, fi, nx, yp, wn, wu, gn, ge, wv, yl, ya, ye, yk, yt, yc, yst, yf, yr, ou) (nI m) sc := by
  have em := nc_ (n := m) (by omega)
  have wm := vi_ (n := m) (N := 96) hm (by omega)
  have ne : ∀ j, j < 30 → j ≠ o → ¬ op m = nI j := by
    intro j hj hjo e
    rw [ho] at e
    have := (nI_eq (by omega) (by omega)).mp e
    omega
  have hpush := y_push (post := post) (yt := yt) (yl := yl) (ya := ya) (ye := ye) (m := m) (sc := sc) h7 ht hw K
  refine ⟨wm, nm_r (e' := op m) (by rw [em]) (br_f (ne 20 (by omega) (by omega)) (br_f (ne 21 (by omega) (by omega)) (br_f (ne 10 (by omega) (by omega)) (br_f (ne 19 (by omega) (by omega)) (br_c (fun _ => ⟨wm, br_f (by rw [em]; exact hp) (br_f (ne 7 (by omega) (by omega)) hpush)⟩) (fun _ => br_f (ne 7 (by omega) (by omega)) hpush))))))⟩
end
end
section
section
variable {op a b fi nx pa : Nat → Int32} {N : Nat} {oc pc E lv : Nat → Nat} {kd : Nat → Nat → Nat} {SC : Nat → Int32 → Prop}
variable {F C V : Nat} {D : Nat → Int32 → Prop} {K T : Nat → Nat → Nat} {fN fX fS fT : Nat → Int32} {fL : Nat → Int64} {yl ya ye : Nat → Int32} {yk : Nat → Int64} {P H : Nat → Nat} {dep : Nat} {xh xc yt yc fn fe gn ge vn vo : Nat → Int32} {vv : Nat → Int64} {wn wu : Nat → Int32} {wv : Nat → Int64} {xst xf xr yst yf yr : Nat → Int32} {Q : Nat → Nat} {k s h : Nat}
variable {fu : Nat} {xN xL : Int32} {xp xl xo : Nat → Int32} {yN yi yo : Int32} {yp : Nat → Int32}
variable {ph ec en ft : Int32} {cr gv gt : Int64} {q w φ : Nat} {pv ou : Nat → Int64} {hs : Int32}
theorem ct_op {m o : Nat} (ht : (ct_all op a b fi nx pa N oc pc E lv kd SC)) (hm : m < N) (ho : oc m = o) : op m = nI o := by rw [← ho]; exact (ht.2.2.2.2 m hm).1.2.1
theorem ct_E {m : Nat} (ht : (ct_all op a b fi nx pa N oc pc E lv kd SC)) (hm : m < N) : m < E m ∧ E m ≤ N := ⟨((ht.2.2.2.2 m hm).2.2.2.2.2.2 trivial).2.1, ((ht.2.2.2.2 m hm).2.2.2.2.2.2 trivial).2.2.1⟩
theorem ct_mn' {m : Nat} (ht : (ct_all op a b fi nx pa N oc pc E lv kd SC)) (hm : m < N) : ct_mn (oc m) ≤ pc m ∧ pc m ≤ ct_mx (oc m) := ⟨((ht.2.2.2.2 m hm).2.2.2.2.2.2 trivial).1, (ht.2.2.2.2 m hm).1.2.2.1⟩
theorem ev_num {m e : Nat} (ht : (ct_all op a b fi nx pa N oc pc E lv kd SC)) (hyp : ∀ n, n < N → xp n = nI (pc n) ∧ yp n = nI (pc n)) (h1 : (cc_C N oc pc E lv kd a b SC F C V D K T fN fX fS fT fL yl ya ye yk P H dep xh xc yt yc fn fe gn ge vn vo vv wn wu wv xst xf xr yst yf yr Q k s h)) (hK : K s h ≤ dep) (hxh : xh s = nI h) (hyt : yt s = nI (h + K s h - cz_ s)) (hx : xc s = nI (K s h)) (hy : yc s = nI (K s h)) (hsh : 1 ≤ s → 1 ≤ h) (hk : (cr_K φ fu q w F C P pv ou)) (hm : m < N) (he : e ≤ V) (hD : ∀ c, SC m c → D e c) (hlev : h + 1 + K s h ≤ 16 * K s h + lv m + cz_ s) (hP : T s h + 4 * (E m - m) ≤ P s) (ho : oc m = 20) : ∃ u1 u2 v2 j, (∀ post : SX → Prop, post u1 → wpX_begin post ((nI dep), (nI fu), xN, xL, (nI F), (nI V), (nI C), (nI s), (-1), cr, ec, en, ft, (nI q), (nI w), op, a, b, xp, fi, xl, nx, xo, fn, fe, vn, vo, vv, xst, xf, xr, xh, xc, fN, fX, fS, fT, fL, pv) (nI m) (nI e)) ∧ xs_ j u1 u2 ∧ (∀ post : SY → Prop, post v2 → wpY_evaluate post ((nI dep), (nI fu), yN, yi, yo, (nI V), (nI F), (nI C), (nI s), ft, (nI q), 0, 0, (-1), (nI w), 1, 0, gv, gt, op, a, b, pa, fi, nx, yp, wn, wu, gn, ge, wv, yl, ya, ye, yk, yt, yc, yst, yf, yr, ou) (nI m) (nI e - 1)) ∧ cr_T op a b fi nx pa N oc pc E lv kd SC dep fu xN xL xp xl xo yN yi yo yp φ (j + 1) u2 v2 := by
  have hE := ct_E ht hm
  have hN := ht.2.1
  exact ⟨_, _, _, 0, fun post K => x_bNum (by omega) (ct_op ht hm ho) K, xs_0 _, fun post K => y_eNum (by omega) (ct_op ht hm ho) K, cr_now ht h1 hK hxh hyt hx hy hsh hk (by omega) (cv_num _)⟩
theorem ev_name {m e : Nat} (ht : (ct_all op a b fi nx pa N oc pc E lv kd SC)) (hyp : ∀ n, n < N → xp n = nI (pc n) ∧ yp n = nI (pc n)) (h1 : (cc_C N oc pc E lv kd a b SC F C V D K T fN fX fS fT fL yl ya ye yk P H dep xh xc yt yc fn fe gn ge vn vo vv wn wu wv xst xf xr yst yf yr Q k s h)) (hK : K s h ≤ dep) (hxh : xh s = nI h) (hyt : yt s = nI (h + K s h - cz_ s)) (hx : xc s = nI (K s h)) (hy : yc s = nI (K s h)) (hsh : 1 ≤ s → 1 ≤ h) (hk : (cr_K φ fu q w F C P pv ou)) (hm : m < N) (he : e ≤ V) (hD : ∀ c, SC m c → D e c) (hlev : h + 1 + K s h ≤ 16 * K s h + lv m + cz_ s) (hP : T s h + 4 * (E m - m) ≤ P s) (ho : oc m = 21) : ∃ u1 u2 v2 j, (∀ post : SX → Prop, post u1 → wpX_begin post ((nI dep), (nI fu), xN, xL, (nI F), (nI V), (nI C), (nI s), (-1), cr, ec, en, ft, (nI q), (nI w), op, a, b, xp, fi, xl, nx, xo, fn, fe, vn, vo, vv, xst, xf, xr, xh, xc, fN, fX, fS, fT, fL, pv) (nI m) (nI e)) ∧ xs_ j u1 u2 ∧ (∀ post : SY → Prop, post v2 → wpY_evaluate post ((nI dep), (nI fu), yN, yi, yo, (nI V), (nI F), (nI C), (nI s), ft, (nI q), 0, 0, (-1), (nI w), 1, 0, gv, gt, op, a, b, pa, fi, nx, yp, wn, wu, gn, ge, wv, yl, ya, ye, yk, yt, yc, yst, yf, yr, ou) (nI m) (nI e - 1)) ∧ cr_T op a b fi nx pa N oc pc E lv kd SC dep fu xN xL xp xl xo yN yi yo yp φ (j + 1) u2 v2 := by
  have hE := ct_E ht hm
  have hN := ht.2.1
  have hV2 := h1.1.2.2.1
  have hS := (ht.2.2.2.2 m hm).2.2.1 (Or.inl ho)
  obtain ⟨p, hp, hX, hY⟩ := xy_find (c := a m) (ph := -1) (hs := 0) (ec := ec) (en := en) (ft := ft) (cr := cr) (gv := gv) (gt := gt) (fu := fu) (xN := xN) (xL := xL) (xp := xp) (xl := xl) (xo := xo) (yN := yN) (yi := yi) (yo := yo) (yp := yp) (q := q) (w := w) (pv := pv) (ou := ou) (dep := dep) (s := s) (op := op) (a := a) (b := b) (fi := fi) (nx := nx) (pa := pa) (fn := fn) (fe := fe) (gn := gn) (ge := ge) (xst := xst) (xf := xf) (xr := xr) (xh := xh) (xc := xc) (fN := fN) (fX := fX) (fS := fS) (fT := fT) (fL := fL) (yl := yl) (ya := ya) (ye := ye) (yk := yk) (yt := yt) (yc := yc) (yst := yst) (yf := yf) (yr := yr) h1.2.2.1 hV2 e he (hD _ hS)
  exact ⟨_, _, _, 0, fun post K => x_bName (by omega) (ct_op ht hm ho) (by omega) (fun post' hp' => ⟨_, hX post' 0 0 (by omega) hp'⟩) K, xs_0 _, fun post K => y_eName (by omega) (ct_op ht hm ho) (by omega) (fun post' hp' => ⟨_, hY post' 0 hp'⟩) K, cr_now ht h1 hK hxh hyt hx hy hsh hk (by omega) (h1.2.2.1.2 p hp).2.1⟩
theorem ev_fun {m e : Nat} (ht : (ct_all op a b fi nx pa N oc pc E lv kd SC)) (hyp : ∀ n, n < N → xp n = nI (pc n) ∧ yp n = nI (pc n)) (h1 : (cc_C N oc pc E lv kd a b SC F C V D K T fN fX fS fT fL yl ya ye yk P H dep xh xc yt yc fn fe gn ge vn vo vv wn wu wv xst xf xr yst yf yr Q k s h)) (hK : K s h ≤ dep) (hxh : xh s = nI h) (hyt : yt s = nI (h + K s h - cz_ s)) (hx : xc s = nI (K s h)) (hy : yc s = nI (K s h)) (hsh : 1 ≤ s → 1 ≤ h) (hk : (cr_K φ fu q w F C P pv ou)) (hm : m < N) (he : e ≤ V) (hD : ∀ c, SC m c → D e c) (hlev : h + 1 + K s h ≤ 16 * K s h + lv m + cz_ s) (hP : T s h + 4 * (E m - m) ≤ P s) (ho : oc m = 10) : ∃ u1 u2 v2 j, (∀ post : SX → Prop, post u1 → wpX_begin post ((nI dep), (nI fu), xN, xL, (nI F), (nI V), (nI C), (nI s), (-1), cr, ec, en, ft, (nI q), (nI w), op, a, b, xp, fi, xl, nx, xo, fn, fe, vn, vo, vv, xst, xf, xr, xh, xc, fN, fX, fS, fT, fL, pv) (nI m) (nI e)) ∧ xs_ j u1 u2 ∧ (∀ post : SY → Prop, post v2 → wpY_evaluate post ((nI dep), (nI fu), yN, yi, yo, (nI V), (nI F), (nI C), (nI s), ft, (nI q), 0, 0, (-1), (nI w), 1, 0, gv, gt, op, a, b, pa, fi, nx, yp, wn, wu, gn, ge, wv, yl, ya, ye, yk, yt, yc, yst, yf, yr, ou) (nI m) (nI e - 1)) ∧ cr_T op a b fi nx pa N oc pc E lv kd SC dep fu xN xL xp xl xo yN yi yo yp φ (j + 1) u2 v2 := by
  have hE := ct_E ht hm
  have hN := ht.2.1
  have h7 := (cc_s h1).2
  have h6 := cc_dep h1
  have hh := cf_h ht (cc_FR h1) (by omega)
  rcases Nat.lt_or_ge F 40 with hF | hF
  · have h2 : (cc_C N oc pc E lv kd a b SC (F + 1) C V D K T fN fX fS fT fL yl ya ye yk P H dep xh xc yt yc (upd fn F (nI m)) (upd fe F (nI e)) (upd gn F (nI m)) (upd ge F (nI e - 1)) vn vo vv wn wu wv xst xf xr yst yf yr Q k s h) := by
      have g := h1
      obtain ⟨⟨g1, g2, g3, g4, g5, g6⟩, gK, gV, gF, _⟩ := g
      exact cc_go ht h1 (by omega) (by omega) (Nat.le_succ _) (by omega) (Nat.le_refl _) g3 (fun _ _ _ h => h) (cd_V_F gV (Nat.le_succ _) (Nat.le_refl _)) (cd_F_new gF hm ho he hD) (fun f hf => pk_un (by omega)) (fun _ _ _ => rfl) (fun _ _ _ => rfl) ca_r ca_r ca_r ca_r ca_r ca_r ca_r ca_r ca_r ca_r ca_r ca_r ca_r ca_r ca_r
    exact ⟨_, _, _, 0, fun post K => x_bFun (by omega) (ct_op ht hm ho) hF K, xs_0 _, fun post K => y_eFun (by omega) (ct_op ht hm ho) hF K, cr_now ht h2 hK hxh hyt hx hy hsh (cr_Kmono hk (Nat.le_succ _) (Nat.le_refl _)) (by omega) (cv_fun (by omega) (by omega))⟩
  · obtain rfl : F = 40 := by have := h1.1.1; omega
    have hp7 : P s ≤ φ := by have h3 := sm_le (f := P) 7 h7; have h4 := hk.1.2.2.1; omega
    obtain ⟨u', v', gX, gY, gT⟩ := cr_raise (d := 1) (ph := -1) (hs := 0) (cr := cr) (gt := gt) (gv := gv) (ec := ec) (en := en) (ft := ft) (xN := xN) (xL := xL) (xp := xp) (xl := xl) (xo := xo) (yN := yN) (yi := yi) (yo := yo) (yp := yp) ht h1 hK hk (by omega) (by omega) 7 (nI m)
    exact ⟨u', u', v', 0, fun post K => x_bFun7 (by omega) (ct_op ht hm ho) (gX post K), xs_0 _, fun post K => y_eFun7 (by omega) (ct_op ht hm ho) (gY post K), gT⟩
theorem ev_pop {m e : Nat} {val vy : Int64} {d : Nat} (ht : (ct_all op a b fi nx pa N oc pc E lv kd SC)) (h1 : (cc_C N oc pc E lv kd a b SC F C V D K T fN fX fS fT fL yl ya ye yk P H dep xh xc yt yc fn fe gn ge vn vo vv wn wu wv xst xf xr yst yf yr Q k s h)) (hK : K s h ≤ dep) (hyt : yt s = nI (h + K s h - cz_ s)) (hx : xc s = nI (K s h)) (hy : yc s = nI (K s h)) (hsh : 1 ≤ s → 1 ≤ h) (hk : (cr_K φ fu q w F C P pv ou)) (hd : T s h + 2 + d ≤ P s) (hv : cv_R F C val vy) {z : Int32} :
    cr_T op a b fi nx pa N oc pc E lv kd SC dep fu xN xL xp xl xo yN yi yo yp φ d ((nI dep), (nI fu), xN, xL, (nI F), (nI V), (nI C), (nI s), (-2), val, ec, en, ft, (nI q), (nI w), op, a, b, xp, fi, xl, nx, xo, fn, fe, vn, vo, vv, xst, xf, xr, (upd (upd xh s (nI (h + 1))) s (nI h)), xc, (upd fN (s * 128 + h) (nI m)), (upd fX (s * 128 + h) z), (upd fS (s * 128 + h) (nI e)), (upd fT (s * 128 + h) 0), (vp_updL fL ((s * 128 + h) * 4) 0), pv) ((nI dep), (nI fu), yN, yi, yo, (nI V), (nI F), (nI C), (nI s), ft, (nI q), 0, 0, (-1), (nI w), 1, 1, gv, vy, op, a, b, pa, fi, nx, yp, wn, wu, gn, ge, wv, yl, ya, ye, yk, yt, yc, yst, yf, yr, ou) := by
  have h7 := (cc_s h1).2
  have h6 := cc_dep h1
  have hh := cf_h ht (cc_FR h1) (by omega)
  exact cr_now ht (cc_fr ht h1 (by omega) (by omega) (fun _ _ _ => rfl) (fun _ _ _ => rfl) (ca_u ca_r (by omega) (by omega)) (ca_u ca_r (by omega) (by omega)) (ca_u ca_r (by omega) (by omega)) (ca_u ca_r (by omega) (by omega)) (ca_l ca_r (by omega) (by omega)) ca_r ca_r ca_r ca_r ca_r (ca_u (ca_u ca_r (by omega) (by omega)) (by omega) (by omega)) ca_r ca_r ca_r) hK pk_us hyt hx hy hsh hk hd hv
theorem ev_fault {m e : Nat} (ht : (ct_all op a b fi nx pa N oc pc E lv kd SC)) (hyp : ∀ n, n < N → xp n = nI (pc n) ∧ yp n = nI (pc n)) (h1 : (cc_C N oc pc E lv kd a b SC F C V D K T fN fX fS fT fL yl ya ye yk P H dep xh xc yt yc fn fe gn ge vn vo vv wn wu wv xst xf xr yst yf yr Q k s h)) (hK : K s h ≤ dep) (hxh : xh s = nI h) (hyt : yt s = nI (h + K s h - cz_ s)) (hx : xc s = nI (K s h)) (hy : yc s = nI (K s h)) (hsh : 1 ≤ s → 1 ≤ h) (hk : (cr_K φ fu q w F C P pv ou)) (hm : m < N) (he : e ≤ V) (hD : ∀ c, SC m c → D e c) (hlev : h + 1 + K s h ≤ 16 * K s h + lv m + cz_ s) (hP : T s h + 4 * (E m - m) ≤ P s) (ho : oc m = 19) : ∃ u1 u2 v2 j, (∀ post : SX → Prop, post u1 → wpX_begin post ((nI dep), (nI fu), xN, xL, (nI F), (nI V), (nI C), (nI s), (-1), cr, ec, en, ft, (nI q), (nI w), op, a, b, xp, fi, xl, nx, xo, fn, fe, vn, vo, vv, xst, xf, xr, xh, xc, fN, fX, fS, fT, fL, pv) (nI m) (nI e)) ∧ xs_ j u1 u2 ∧ (∀ post : SY → Prop, post v2 → wpY_evaluate post ((nI dep), (nI fu), yN, yi, yo, (nI V), (nI F), (nI C), (nI s), ft, (nI q), 0, 0, (-1), (nI w), 1, 0, gv, gt, op, a, b, pa, fi, nx, yp, wn, wu, gn, ge, wv, yl, ya, ye, yk, yt, yc, yst, yf, yr, ou) (nI m) (nI e - 1)) ∧ cr_T op a b fi nx pa N oc pc E lv kd SC dep fu xN xL xp xl xo yN yi yo yp φ (j + 1) u2 v2 := by
  have hE := ct_E ht hm
  have hN := ht.2.1
  have h7 := (cc_s h1).2
  have h6 := cc_dep h1
  have hh := cf_h ht (cc_FR h1) (by omega)
  have hp0 : pc m = 0 := by have := (ct_mn' ht hm).2; rw [ho] at this; have e : ct_mx 19 = 0 := rfl; omega
  have hf : fi m = -1 := (ht.2.2.2.2 m hm).2.2.2.2.1.1 hp0
  have o19 : op m = 19 := ct_op ht hm ho
  exact ⟨_, _, _, 1, fun post K => x_bPush h7 hxh (by omega) (by omega) (ct_op ht hm ho) (by omega) (by omega) (fun h => absurd (h.symm.trans o19) (by decide)) (fun _ => rfl) K, xs_a (fun post K => x_adv1 h7 pk_us (by omega) (pk_us.trans hf) (x_con19 h7 pk_us (by omega) pk_us (by omega) o19 K)), fun post K => y_eFault (by omega) o19 K, ev_pop ht h1 hK hyt hx hy hsh hk (by omega) (cv_num _)⟩
theorem ev_seq0 {m e : Nat} (ht : (ct_all op a b fi nx pa N oc pc E lv kd SC)) (hyp : ∀ n, n < N → xp n = nI (pc n) ∧ yp n = nI (pc n)) (h1 : (cc_C N oc pc E lv kd a b SC F C V D K T fN fX fS fT fL yl ya ye yk P H dep xh xc yt yc fn fe gn ge vn vo vv wn wu wv xst xf xr yst yf yr Q k s h)) (hK : K s h ≤ dep) (hxh : xh s = nI h) (hyt : yt s = nI (h + K s h - cz_ s)) (hx : xc s = nI (K s h)) (hy : yc s = nI (K s h)) (hsh : 1 ≤ s → 1 ≤ h) (hk : (cr_K φ fu q w F C P pv ou)) (hm : m < N) (he : e ≤ V) (hD : ∀ c, SC m c → D e c) (hlev : h + 1 + K s h ≤ 16 * K s h + lv m + cz_ s) (hP : T s h + 4 * (E m - m) ≤ P s) (ho : oc m = 6) (hp0 : pc m = 0) : ∃ u1 u2 v2 j, (∀ post : SX → Prop, post u1 → wpX_begin post ((nI dep), (nI fu), xN, xL, (nI F), (nI V), (nI C), (nI s), (-1), cr, ec, en, ft, (nI q), (nI w), op, a, b, xp, fi, xl, nx, xo, fn, fe, vn, vo, vv, xst, xf, xr, xh, xc, fN, fX, fS, fT, fL, pv) (nI m) (nI e)) ∧ xs_ j u1 u2 ∧ (∀ post : SY → Prop, post v2 → wpY_evaluate post ((nI dep), (nI fu), yN, yi, yo, (nI V), (nI F), (nI C), (nI s), ft, (nI q), 0, 0, (-1), (nI w), 1, 0, gv, gt, op, a, b, pa, fi, nx, yp, wn, wu, gn, ge, wv, yl, ya, ye, yk, yt, yc, yst, yf, yr, ou) (nI m) (nI e - 1)) ∧ cr_T op a b fi nx pa N oc pc E lv kd SC dep fu xN xL xp xl xo yN yi yo yp φ (j + 1) u2 v2 := by
  have hE := ct_E ht hm
  have hN := ht.2.1
  have h7 := (cc_s h1).2
  have h6 := cc_dep h1
  have hh := cf_h ht (cc_FR h1) (by omega)
  have hf : fi m = -1 := (ht.2.2.2.2 m hm).2.2.2.2.1.1 hp0
  have o6 : op m = 6 := ct_op ht hm ho
  have hy0 : yp m = 0 := by rw [(hyp m hm).2, hp0]; rfl
  refine ⟨_, _, _, 1, fun post K => x_bPush h7 hxh (by omega) (by omega) (ct_op ht hm ho) (by omega) (by omega) (fun h => absurd (h.symm.trans o6) (by decide)) (fun _ => rfl) K, xs_a (fun post K => x_adv1 h7 pk_us (by omega) (pk_us.trans hf) (x_con6 h7 pk_us (by omega) pk_us (by omega) o6 K)), fun post K => y_eSeq0 (by omega) o6 hy0 K, ?_⟩
  rw [pk_uLs]
  exact ev_pop ht h1 hK hyt hx hy hsh hk (by omega) cv_nil
theorem ct_in0 {m : Nat} {c : Int32} (h : ct_in oc a b SC m 0 c) (ho : oc m ≠ 10) : SC m c := by
  rcases h with h | h | h
  · exact h
  · exact absurd h.2.1 (Nat.lt_irrefl 0)
  · exact absurd h.1 ho
theorem ev_push {m e : Nat} (ht : (ct_all op a b fi nx pa N oc pc E lv kd SC)) (hyp : ∀ n, n < N → xp n = nI (pc n) ∧ yp n = nI (pc n)) (h1 : (cc_C N oc pc E lv kd a b SC F C V D K T fN fX fS fT fL yl ya ye yk P H dep xh xc yt yc fn fe gn ge vn vo vv wn wu wv xst xf xr yst yf yr Q k s h)) (hK : K s h ≤ dep) (hxh : xh s = nI h) (hyt : yt s = nI (h + K s h - cz_ s)) (hx : xc s = nI (K s h)) (hy : yc s = nI (K s h)) (hsh : 1 ≤ s → 1 ≤ h) (hk : (cr_K φ fu q w F C P pv ou)) (hm : m < N) (he : e ≤ V) (hD : ∀ c, SC m c → D e c) (hlev : h + 1 + K s h ≤ 16 * K s h + lv m + cz_ s) (hP : T s h + 4 * (E m - m) ≤ P s) (ho : oc m < 19) (h10 : oc m ≠ 10) (h7' : oc m ≠ 7) (hp : 0 < pc m) : ∃ u1 u2 v2 j, (∀ post : SX → Prop, post u1 → wpX_begin post ((nI dep), (nI fu), xN, xL, (nI F), (nI V), (nI C), (nI s), (-1), cr, ec, en, ft, (nI q), (nI w), op, a, b, xp, fi, xl, nx, xo, fn, fe, vn, vo, vv, xst, xf, xr, xh, xc, fN, fX, fS, fT, fL, pv) (nI m) (nI e)) ∧ xs_ j u1 u2 ∧ (∀ post : SY → Prop, post v2 → wpY_evaluate post ((nI dep), (nI fu), yN, yi, yo, (nI V), (nI F), (nI C), (nI s), ft, (nI q), 0, 0, (-1), (nI w), 1, 0, gv, gt, op, a, b, pa, fi, nx, yp, wn, wu, gn, ge, wv, yl, ya, ye, yk, yt, yc, yst, yf, yr, ou) (nI m) (nI e - 1)) ∧ cr_T op a b fi nx pa N oc pc E lv kd SC dep fu xN xL xp xl xo yN yi yo yp φ (j + 1) u2 v2 := by
  have hE := ct_E ht hm
  have hN := ht.2.1
  have h7 := (cc_s h1).2
  have h6 := cc_dep h1
  have hh := cf_h ht (cc_FR h1) (by omega)
  have hz := cf_z ht (cc_FR h1) (by omega) hsh
  have hzl := cz_le s
  have hl := (ht.2.2.2.2 m hm).2.2.2.1.2 (by omega)
  have kd0 := (ht.2.2.2.2 m hm).2.2.2.2.2.1 0 hp
  have hf : fi m = nI (kd m 0) := (ht.2.2.2.2 m hm).2.2.2.2.1.2 hp
  have hn7 : ¬ op m = 7 := fun h => by
    have h2 := (ct_op ht hm rfl).symm.trans h
    have := (nI_eq (a := oc m) (b := 7) (by omega) (by omega)).mp h2
    omega
  have hp2 : ¬ yp m = 0 := by rw [(hyp m hm).2]; exact nI_ne0 hp (by have := (ht.2.2.2.2 m hm).1.2.2.2; omega)
  obtain ⟨φ', hφ, hk'⟩ := cr_P (P' := ch_ P s (T s h + 4 * (E m - kd m 0) + 3)) (d := 1) hk h7 rfl (by omega)
  refine ⟨_, _, _, 0, fun post K => x_bPush h7 hxh (by omega) (by omega) (ct_op ht hm rfl) (by omega) h10 (fun h => absurd h hn7) (fun _ => hf.symm) K, xs_0 _, fun post K => y_ePush (by omega) (ct_op ht hm rfl) ho h10 h7' hp2 h7 hyt (by omega) K, ?_⟩
  have := cr_new (e := e) (k1 := K s h) (q' := q) (d := 1) (xN := xN) (xL := xL) (xp := xp) (xl := xl) (xo := xo) (yN := yN) (yi := yi) (yo := yo) (yp := yp) (ec := ec) (en := en) (ft := ft) (cr := cr) (gv := gv) (gt := gt) ht h1 hK (by rw [if_neg h10]; rfl) hK hz hm ho hp he (fun c hc => hD c (ct_in0 hc h10)) hlev hx hy hφ hk'
  rw [show h + K s h - cz_ s + 1 = h + 1 + K s h - cz_ s by omega]
  exact this
theorem ev_while {m e : Nat} (ht : (ct_all op a b fi nx pa N oc pc E lv kd SC)) (hyp : ∀ n, n < N → xp n = nI (pc n) ∧ yp n = nI (pc n)) (h1 : (cc_C N oc pc E lv kd a b SC F C V D K T fN fX fS fT fL yl ya ye yk P H dep xh xc yt yc fn fe gn ge vn vo vv wn wu wv xst xf xr yst yf yr Q k s h)) (hK : K s h ≤ dep) (hxh : xh s = nI h) (hyt : yt s = nI (h + K s h - cz_ s)) (hx : xc s = nI (K s h)) (hy : yc s = nI (K s h)) (hsh : 1 ≤ s → 1 ≤ h) (hk : (cr_K φ fu q w F C P pv ou)) (hm : m < N) (he : e ≤ V) (hD : ∀ c, SC m c → D e c) (hlev : h + 1 + K s h ≤ 16 * K s h + lv m + cz_ s) (hP : T s h + 4 * (E m - m) ≤ P s) (ho : oc m = 7) : ∃ u1 u2 v2 j, (∀ post : SX → Prop, post u1 → wpX_begin post ((nI dep), (nI fu), xN, xL, (nI F), (nI V), (nI C), (nI s), (-1), cr, ec, en, ft, (nI q), (nI w), op, a, b, xp, fi, xl, nx, xo, fn, fe, vn, vo, vv, xst, xf, xr, xh, xc, fN, fX, fS, fT, fL, pv) (nI m) (nI e)) ∧ xs_ j u1 u2 ∧ (∀ post : SY → Prop, post v2 → wpY_evaluate post ((nI dep), (nI fu), yN, yi, yo, (nI V), (nI F), (nI C), (nI s), ft, (nI q), 0, 0, (-1), (nI w), 1, 0, gv, gt, op, a, b, pa, fi, nx, yp, wn, wu, gn, ge, wv, yl, ya, ye, yk, yt, yc, yst, yf, yr, ou) (nI m) (nI e - 1)) ∧ cr_T op a b fi nx pa N oc pc E lv kd SC dep fu xN xL xp xl xo yN yi yo yp φ (j + 1) u2 v2 := by
  have hE := ct_E ht hm
  have hN := ht.2.1
  have h7 := (cc_s h1).2
  have h6 := cc_dep h1
  have hh := cf_h ht (cc_FR h1) (by omega)
  have hz := cf_z ht (cc_FR h1) (by omega) hsh
  have hzl := cz_le s
  have hl := (ht.2.2.2.2 m hm).2.2.2.1.2 (by omega)
  have hp : 0 < pc m := by have := (ct_mn' ht hm).1; rw [ho] at this; have e : ct_mn 7 = 1 := rfl; omega
  have kd0 := (ht.2.2.2.2 m hm).2.2.2.2.2.1 0 hp
  have hf : fi m = nI (kd m 0) := (ht.2.2.2.2 m hm).2.2.2.2.1.2 hp
  have o7 : op m = 7 := ct_op ht hm ho
  have hfu := hk.1.2.1
  rcases Nat.lt_or_ge q fu with hq | hq
  · obtain ⟨φ', hφ, hk'⟩ := cr_beat (P' := ch_ P s (T s h + 4 * (E m - kd m 0) + 3)) (d := 2) hk h7 hq rfl (by omega)
    refine ⟨_, _, _, 1, fun post K => x_bPush h7 hxh (by omega) (by omega) (ct_op ht hm ho) (by omega) (by omega) (fun _ => rfl) (fun h => absurd o7 h) K, xs_a (fun post K => x_adv1 h7 pk_us (by omega) pk_us (x_con7 h7 (by omega) pk_us (by omega) o7 (x_round1 h7 (by omega) pk_us (by omega) hq (by omega) K))), fun post K => y_eWh1 (by omega) o7 hq (by omega) h7 hyt (by omega) K, ?_⟩
    have := cr_new (e := e) (k1 := K s h) (q' := q + 1) (d := 2) (xN := xN) (xL := xL) (xp := xp) (xl := xl) (xo := xo) (yN := yN) (yi := yi) (yo := yo) (yp := yp) (ec := ec) (en := en) (ft := ft) (cr := cr) (gv := gv) (gt := gt) ht h1 hK (by rw [if_neg (by omega)]; rfl) hK hz hm (by omega) hp he (fun c hc => hD c (ct_in0 hc (by omega))) hlev hx hy hφ hk'
    rw [show h + K s h - cz_ s + 1 = h + 1 + K s h - cz_ s by omega, up_same, up_same, hf]
    exact this
  · obtain rfl : q = fu := by have := hk.1.1; omega
    have hφ2 : 2 ≤ φ := by have h3 := sm_le (f := P) 7 h7; have h4 := hk.1.2.2.1; omega
    exact ⟨_, _, _, 1, fun post K => x_bPush h7 hxh (by omega) (by omega) (ct_op ht hm ho) (by omega) (by omega) (fun _ => rfl) (fun h => absurd o7 h) K, xs_a (fun post K => x_adv1 h7 pk_us (by omega) pk_us (x_con7 h7 (by omega) pk_us (by omega) o7 (x_round0 (by omega) K))), fun post K => y_eWh0 (by omega) o7 K, cr_fuel h1.1.1 h1.1.2.1 hk hφ2⟩
/-- a node is evaluated -/
theorem ev_all {m e : Nat} (ht : (ct_all op a b fi nx pa N oc pc E lv kd SC)) (hyp : ∀ n, n < N → xp n = nI (pc n) ∧ yp n = nI (pc n)) (h1 : (cc_C N oc pc E lv kd a b SC F C V D K T fN fX fS fT fL yl ya ye yk P H dep xh xc yt yc fn fe gn ge vn vo vv wn wu wv xst xf xr yst yf yr Q k s h)) (hK : K s h ≤ dep) (hxh : xh s = nI h) (hyt : yt s = nI (h + K s h - cz_ s)) (hx : xc s = nI (K s h)) (hy : yc s = nI (K s h)) (hsh : 1 ≤ s → 1 ≤ h) (hk : (cr_K φ fu q w F C P pv ou)) (hm : m < N) (he : e ≤ V) (hD : ∀ c, SC m c → D e c) (hlev : h + 1 + K s h ≤ 16 * K s h + lv m + cz_ s) (hP : T s h + 4 * (E m - m) ≤ P s) : ∃ u1 u2 v2 j, (∀ post : SX → Prop, post u1 → wpX_begin post ((nI dep), (nI fu), xN, xL, (nI F), (nI V), (nI C), (nI s), (-1), cr, ec, en, ft, (nI q), (nI w), op, a, b, xp, fi, xl, nx, xo, fn, fe, vn, vo, vv, xst, xf, xr, xh, xc, fN, fX, fS, fT, fL, pv) (nI m) (nI e)) ∧ xs_ j u1 u2 ∧ (∀ post : SY → Prop, post v2 → wpY_evaluate post ((nI dep), (nI fu), yN, yi, yo, (nI V), (nI F), (nI C), (nI s), ft, (nI q), 0, 0, (-1), (nI w), 1, 0, gv, gt, op, a, b, pa, fi, nx, yp, wn, wu, gn, ge, wv, yl, ya, ye, yk, yt, yc, yst, yf, yr, ou) (nI m) (nI e - 1)) ∧ cr_T op a b fi nx pa N oc pc E lv kd SC dep fu xN xL xp xl xo yN yi yo yp φ (j + 1) u2 v2 := by
  have h21 := (ht.2.2.2.2 m hm).1.1
  have hmn := ct_mn' ht hm
  by_cases c1 : oc m = 20
  · exact ev_num ht hyp h1 hK hxh hyt hx hy hsh hk hm he hD hlev hP c1
  by_cases c2 : oc m = 21
  · exact ev_name ht hyp h1 hK hxh hyt hx hy hsh hk hm he hD hlev hP c2
  by_cases c3 : oc m = 10
  · exact ev_fun ht hyp h1 hK hxh hyt hx hy hsh hk hm he hD hlev hP c3
  by_cases c4 : oc m = 19
  · exact ev_fault ht hyp h1 hK hxh hyt hx hy hsh hk hm he hD hlev hP c4
  by_cases c5 : oc m = 7
  · exact ev_while ht hyp h1 hK hxh hyt hx hy hsh hk hm he hD hlev hP c5
  by_cases c6 : pc m = 0
  · by_cases c7 : oc m = 6
    · exact ev_seq0 ht hyp h1 hK hxh hyt hx hy hsh hk hm he hD hlev hP c7 c6
    · exfalso
      have h0 : 1 ≤ ct_mn (oc m) := by
        unfold ct_mn ct_mx
        split
        · omega
        · split
          · omega
          · split
            · omega
            · split
              · omega
              · split
                · omega
                · split
                  · omega
                  · split <;> omega
      omega
  · exact ev_push ht hyp h1 hK hxh hyt hx hy hsh hk hm he hD hlev hP (by omega) c3 c5 (by omega)
end
end
section
section
variable {xd xg xN xL xF xV xC xs ph : Int32} {cr : Int64} {ec en ft bt pr : Int32} {op a b xp fi xl nx xo fn fe vn vo : Nat → Int32} {vv : Nat → Int64} {xst xf xr xh xc fN fX fS fT : Nat → Int32} {fL pv : Nat → Int64}
/-- a part is begun -/
theorem x_adv2 {post : SX → Prop} {s h m e : Nat} (hs : s < 7) (hh : xh s = nI (h + 1)) (hb : h < 128) (hm : m < 96) (hx : fX (s * 128 + h) = nI m) (he : fS (s * 128 + h) = nI e) (K : wpX_begin post (xd, xg, xN, xL, xF, xV, xC, (nI s), ph, cr, ec, en, ft, bt, pr, op, a, b, xp, fi, xl, nx, xo, fn, fe, vn, vo, vv, xst, xf, xr, xh, xc, fN, (upd fX (s * 128 + h) (nx m)), fS, fT, fL, pv) (nI m) (nI e)) : wpX_advance post (xd, xg, xN, xL, xF, xV, xC, (nI s), ph, cr, ec, en, ft, bt, pr, op, a, b, xp, fi, xl, nx, xo, fn, fe, vn, vo, vv, xst, xf, xr, xh, xc, fN, fX, fS, fT, fL, pv) := by
  have ei := nc_ (n := s * 128 + h) (by omega)
  have em := nc_ (n := m) (by omega)
  have wm := vi_ (n := m) (N := 96) hm (by omega)
  have wi := vi_ (n := s * 128 + h) (N := 896) (by omega) (by omega)
  unfold wpX_advance
  dsimp only
  refine x_top hs hh ?_
  refine ⟨wi, nm_r (e' := nI m) (by rw [ei, hx]) (br_f ?_ ⟨wm, wi, nm_r (e' := upd fX (s * 128 + h) (nx m)) (by rw [ei, em]) ⟨wi, ?_⟩⟩)⟩
  · intro h
    have h2 := nI_pos' (n := m) (by omega)
    rw [h] at h2
    exact absurd h2 (by decide)
  · rw [ei, he]; exact K
end
section
variable {yd yg yN yi yo yV yF yC ys yft ybt res yer ypl ypr rn hs : Int32} {gv gt : Int64} {op a b pa fi nx yp wn wu gn ge : Nat → Int32} {wv : Nat → Int64} {yl ya ye : Nat → Int32} {yk : Nat → Int64} {yt yc yst yf yr : Nat → Int32} {ou : Nat → Int64}
theorem y_kid {post : Int32 → SY → Prop} {J : _} {j i : Nat} {kd : Nat → Nat} {en : Int32} (hj : j < 784) (hi : i < 100) (ha : ya j = nI i) (he : ye j = en) (hk : ∀ t, t ≤ i → kd t < 96) (hn : ∀ t, t < i → nx (kd t) = nI (kd (t + 1))) (H : wpY_evaluate (fun u => match u with | (yd, yg, yN, yi, yo, yV, yF, yC, ys, yft, ybt, res, yer, ypl, ypr, rn, hs, gv, gt, op, a, b, pa, fi, nx, yp, wn, wu, gn, ge, wv, yl, ya, ye, yk, yt, yc, yst, yf, yr, ou) => J yd yg yN yi yo yV yF yC ys yft ybt res yer ypl ypr rn hs gv gt op a b pa fi nx yp wn wu gn ge wv yl ya ye yk yt yc yst yf yr ou) (yd, yg, yN, yi, yo, yV, yF, yC, ys, yft, ybt, res, yer, ypl, ypr, rn, hs, gv, gt, op, a, b, pa, fi, nx, yp, wn, wu, gn, ge, wv, yl, ya, ye, yk, yt, yc, yst, yf, yr, ou) (nI (kd i)) en) : ∀ d t, t + d = i → ∀ f, wY_run_181 post J (nI j) yd yg yN yi yo yV yF yC ys yft ybt res yer ypl ypr rn hs gv gt op a b pa fi nx yp wn wu gn ge wv yl ya ye yk yt yc yst yf yr ou (f + d + 1) (nI (kd t)) (nI t) := by
  have ej := nc_ (n := j) (by omega)
  have wj := vi_ (n := j) (N := 784) hj (by omega)
  intro d
  induction d with
  | zero =>
    intro t ht f
    obtain rfl : t = i := by omega
    refine ⟨wj, br_t ?_ ⟨wj, ?_⟩⟩
    · rw [ej, ha]; exact nI_le (Nat.le_refl _) (by omega)
    · rw [ej, he]; exact H
  | succ d ih =>
    intro t ht f
    have et := nc_ (n := kd t) (by have := hk t (by omega); omega)
    have wt := vi_ (n := kd t) (N := 96) (hk t (by omega)) (by omega)
    refine ⟨wj, br_f ?_ ⟨wt, nm_r (e' := nI (kd (t + 1))) (by rw [et]; exact hn t (by omega)) (nm_r (nI_1 t) ?_)⟩⟩
    · rw [ej, ha]; exact nI_ge (by omega) (by omega)
    · exact ih (t + 1) (by omega) f
theorem ys_e {v' : SY} {s w n i : Nat} {kd : Nat → Nat} {en : Int32} (h7 : s < 7) (ht : yt s = nI (w + 1)) (hw : w < 112) (hl : yl (112 * s + w) = nI n) (hn96 : n < 96) (hf : fi n = nI (kd 0)) (hi : i < 100) (ha : ya (112 * s + w) = nI i) (he : ye (112 * s + w) = en) (hk : ∀ t, t ≤ i → kd t < 96) (hn : ∀ t, t < i → nx (kd t) = nI (kd (t + 1)))
    (H : ∀ post : SY → Prop, post v' → wpY_evaluate post (yd, yg, yN, yi, yo, yV, yF, yC, (nI s), yft, ybt, res, yer, ypl, ypr, 1, 0, gv, gt, op, a, b, pa, fi, nx, yp, wn, wu, gn, ge, wv, yl, ya, ye, yk, yt, yc, yst, yf, yr, ou) (nI (kd i)) en) : ys_ (yd, yg, yN, yi, yo, yV, yF, yC, (nI s), yft, ybt, res, yer, ypl, ypr, 1, 0, gv, gt, op, a, b, pa, fi, nx, yp, wn, wu, gn, ge, wv, yl, ya, ye, yk, yt, yc, yst, yf, yr, ou) v' := by
  intro post f h
  have e := nc_ (n := s) (by omega)
  have ei := nc_ (n := 112 * s + w) (by omega)
  have e2 := nc_ (n := n) (by omega)
  have v := vi_ (n := s) (N := 7) h7 (by omega)
  have vn := vi_ (n := n) (N := 96) hn96 (by omega)
  have v1 := vi_ (n := 112 * s + w) (N := 784) (by omega) (by omega)
  refine br_f (by decide) (br_t rfl ⟨v, nm_r (e' := nI (112 * s + w)) (by rw [e, ht, ix_y]) ⟨v1, ?_, nm_r (e' := nI (kd 0)) (by rw [ei, hl, e2]; exact hf) ⟨0 + i + 1, ?_⟩⟩⟩)
  · rw [ei, hl]; exact vn
  · refine y_kid (by omega) hi ha he hk hn (H _ ?_) i 0 (by omega) 0
    obtain ⟨_, _, _, _, _, _, _, _, _, _, _, _, _, _, _, _, _, _, _, _, _, _, _, _, _, _, _, _, _, _, _, _, _, _, _, _, _, _, _, _, _⟩ := v'
    exact h
end
section
variable {op a b fi nx pa : Nat → Int32} {N : Nat} {oc pc E lv : Nat → Nat} {kd : Nat → Nat → Nat} {SC : Nat → Int32 → Prop}
variable {F C V : Nat} {D : Nat → Int32 → Prop} {K T : Nat → Nat → Nat} {fN fX fS fT : Nat → Int32} {fL : Nat → Int64} {yl ya ye : Nat → Int32} {yk : Nat → Int64} {P H : Nat → Nat} {dep : Nat} {xh xc yt yc fn fe gn ge vn vo : Nat → Int32} {vv : Nat → Int64} {wn wu : Nat → Int32} {wv : Nat → Int64} {xst xf xr yst yf yr : Nat → Int32} {Q : Nat → Nat} {k s h : Nat}
variable {fu : Nat} {xN xL : Int32} {xp xl xo : Nat → Int32} {yN yi yo : Int32} {yp : Nat → Int32}
variable {ph ec en ft : Int32} {cr gv gt : Int64} {q w φ : Nat} {pv ou : Nat → Int64} {hs : Int32}
theorem ct_nx' {n i : Nat} (ht : (ct_all op a b fi nx pa N oc pc E lv kd SC)) (hn : n < N) (hi : i < pc n) : nx (kd n i) = ct_nx pc kd n (i + 1) := by
  have g := (ht.2.2.2.2 n hn).2.2.2.2.2.1 i hi
  unfold ct_nx
  by_cases h : i + 1 < pc n
  · rw [if_pos h]; exact (g.2.2.2.2.1 h).1
  · rw [if_neg h]; exact g.2.2.2.2.2.1 (by omega)
theorem step_B {u : SX} {v : SY} (ht : (ct_all op a b fi nx pa N oc pc E lv kd SC)) (hyp : ∀ n, n < N → xp n = nI (pc n) ∧ yp n = nI (pc n)) (hB : cr_B op a b fi nx pa N oc pc E lv kd SC dep fu xN xL xp xl xo yN yi yo yp φ u v) : ∃ u2 v2 kx, xs_ (kx + 1) u u2 ∧ ys_ v v2 ∧ cr_T op a b fi nx pa N oc pc E lv kd SC dep fu xN xL xp xl xo yN yi yo yp φ (kx + 1) u2 v2 := by
  obtain ⟨F, C, V, D, K, T, P, H, Q, k, s, h, q, w, ec, en, ft, cr, gv, gt, fn, fe, vn, vo, vv, xst, xf, xr, xh, xc, fN, fX, fS, fT, fL, pv, wn, wu, gn, ge, wv, yl, ya, ye, yk, yt, yc, yst, yf, yr, ou, rfl, rfl, h1, h2, ⟨⟨b1, b2⟩, b3, b4, b5, b6⟩, hk⟩ := hB
  obtain ⟨n, i, e, ⟨⟨g1, g2, g3, g4⟩, ⟨g5, g6, g7⟩, ⟨g8, g9, g10⟩, g11, g12, ⟨g13, g14, g15⟩⟩, hn, hT⟩ := h2
  have h7 := (cc_s h1).2
  have h6 := cc_dep h1
  have hKK : K s h ≤ K s (h + 1) := by omega
  have hh := cf_h ht (cc_FR h1) (by omega)
  have hN := ht.2.1
  have hl := (ht.2.2.2.2 n g1).2.2.2.1.2 (by omega)
  have kd1 := (ht.2.2.2.2 n g1).2.2.2.2.2.1 i g3
  have hEm := ct_E ht kd1.2.1
  have hEn := ((ht.2.2.2.2 n g1).2.2.2.2.2.2 trivial).2.2.2 i g3
  have hzl := cz_le s
  have hpn := (ht.2.2.2.2 n g1).1.2.2.2
  have hw : h + K s (h + 1) - cz_ s < 112 := by omega
  have kdl : ∀ t, t < pc n → kd n t < 96 := fun t ht' => by have := ((ht.2.2.2.2 n g1).2.2.2.2.2.1 t ht').2.1; omega
  have h3 : (cc_C N oc pc E lv kd a b SC F C V D K (kt_ T s (h + 1) (T s h + 4 * (E n - E (kd n i)) + 3)) fN (upd fX (s * 128 + h) (nx (kd n i))) fS fT fL yl ya ye yk P H dep xh xc yt yc fn fe gn ge vn vo vv wn wu wv xst xf xr yst yf yr Q k s (h + 1)) := by
    refine cc_up (cc_fr ht h1 (by omega) (by omega) (fun _ _ _ => rfl) (fun r j hr => kt_n (by omega)) ca_r (ca_u ca_r (by omega) (by omega)) ca_r ca_r ca_r ca_r ca_r ca_r ca_r ca_r ca_r ca_r ca_r ca_r) ?_
    refine ⟨n, i, e, ⟨⟨g1, g2, g3, g4⟩, ⟨g5, g6, g7⟩, ⟨g8, g9, g10⟩, g11, g12, ⟨g13, g14, g15⟩⟩, ?_, ?_⟩
    · rw [pk_us]; exact ct_nx' ht g1 g3
    · rw [kt_s, kt_n (by omega)]; exact Nat.le_refl _
  obtain ⟨u1, u2, v2, j, e1, e2, e3, e4⟩ := ev_all (m := kd n i) (e := e) (xN := xN) (xL := xL) (xp := xp) (xl := xl) (xo := xo) (yN := yN) (yi := yi) (yo := yo) (yp := yp) (ec := ec) (en := en) (ft := ft) (cr := cr) (gv := gv) (gt := gt) ht hyp h3 b1 b3 b4 b5 b6 (fun _ => by omega) hk kd1.2.1 g4 (fun c hc => g11 c (kd1.2.2.2.2.2.2 c hc)) (by rw [kd1.2.2.2.1]; omega) (by rw [kt_s]; omega)
  refine ⟨u2, v2, j, ?_, ?_, e4⟩
  · rw [Nat.add_comm j 1]
    exact xs_t (xs_a (fun post K => x_adv2 h7 b3 (by omega) (kdl i g3) hn g7 (e1 post K))) e2
  · refine ys_e (w := h + K s (h + 1) - cz_ s) (n := n) (i := i) (kd := kd n) h7 ?_ hw g8 (by omega) ?_ (by omega) g9 g10 (fun t ht' => kdl t (by omega)) (fun t ht' => ?_) e3
    · rw [b4]; exact congrArg nI (by omega)
    · exact (ht.2.2.2.2 n g1).2.2.2.2.1.2 (by omega)
    · exact (((ht.2.2.2.2 n g1).2.2.2.2.2.1 t (by omega)).2.2.2.2.1 (by omega)).1
end
end
section
section
variable {xd xg xN xL xF xV xC xs ph : Int32} {cr : Int64} {ec en ft bt pr : Int32} {op a b xp fi xl nx xo fn fe vn vo : Nat → Int32} {vv : Nat → Int64} {xst xf xr xh xc fN fX fS fT : Nat → Int32} {fL pv : Nat → Int64}
variable {post : SX → Prop}
theorem x_c5 {s h m : Nat} (hs : s < 7) (hb : h < 128) (hn : fN (s * 128 + h) = nI m) (hm : m < 96) (ho : op m = 5) (K : wpX_finish post (xd, xg, xN, xL, xF, xV, xC, (nI s), ph, cr, ec, en, ft, bt, pr, op, a, b, xp, fi, xl, nx, xo, fn, fe, vn, vo, vv, xst, xf, xr, xh, xc, fN, fX, fS, fT, fL, pv) (fL ((s * 128 + h) * 4))) : wpX_conclude post (xd, xg, xN, xL, xF, xV, xC, (nI s), ph, cr, ec, en, ft, bt, pr, op, a, b, xp, fi, xl, nx, xo, fn, fe, vn, vo, vv, xst, xf, xr, xh, xc, fN, fX, fS, fT, fL, pv) (nI (s * 128 + h)) := by
  have ei := nc_ (n := s * 128 + h) (by omega)
  have e4 := nc_ (n := (s * 128 + h) * 4) (by omega)
  have em := nc_ (n := m) (by omega)
  have wm := vi_ (n := m) (N := 96) hm (by omega)
  have wi := vi_ (n := s * 128 + h) (N := 896) (by omega) (by omega)
  have w4 : vp_in (nI (s * 128 + h) * 4) 3584 := by rw [ix_4]; exact vi_ (by omega) (by omega)
  refine ⟨wi, ?_, nm_r (e' := op m) (by rw [ei, hn, em]) ⟨w4, nm_r (e' := fL ((s * 128 + h) * 4)) (by rw [ix_4, e4]) ?_⟩⟩
  · rw [ei, hn]; exact wm
  · rw [ho]
    exact (br_f (by decide) (br_f (by decide) (br_f (by decide) (br_t rfl K))))
theorem x_c8 {s h m : Nat} (hs : s < 7) (hb : h < 128) (hn : fN (s * 128 + h) = nI m) (hm : m < 96) (ho : op m = 8) (K : wpX_finish post (xd, xg, xN, xL, xF, xV, xC, (nI s), ph, cr, ec, en, ft, bt, pr, op, a, b, xp, fi, xl, nx, xo, fn, fe, vn, vo, vv, xst, xf, xr, xh, xc, fN, fX, fS, fT, fL, pv) (fL ((s * 128 + h) * 4))) : wpX_conclude post (xd, xg, xN, xL, xF, xV, xC, (nI s), ph, cr, ec, en, ft, bt, pr, op, a, b, xp, fi, xl, nx, xo, fn, fe, vn, vo, vv, xst, xf, xr, xh, xc, fN, fX, fS, fT, fL, pv) (nI (s * 128 + h)) := by
  have ei := nc_ (n := s * 128 + h) (by omega)
  have e4 := nc_ (n := (s * 128 + h) * 4) (by omega)
  have em := nc_ (n := m) (by omega)
  have wm := vi_ (n := m) (N := 96) hm (by omega)
  have wi := vi_ (n := s * 128 + h) (N := 896) (by omega) (by omega)
  have w4 : vp_in (nI (s * 128 + h) * 4) 3584 := by rw [ix_4]; exact vi_ (by omega) (by omega)
  refine ⟨wi, ?_, nm_r (e' := op m) (by rw [ei, hn, em]) ⟨w4, nm_r (e' := fL ((s * 128 + h) * 4)) (by rw [ix_4, e4]) ?_⟩⟩
  · rw [ei, hn]; exact wm
  · rw [ho]
    exact (br_f (by decide) (br_f (by decide) (br_f (by decide) (br_f (by decide) (br_f (by decide) (br_f (by decide) (br_t rfl K)))))))
theorem x_c9 {s h m : Nat} (hs : s < 7) (hb : h < 128) (hn : fN (s * 128 + h) = nI m) (hm : m < 96) (ho : op m = 9) (K : wpX_concludeSet post (xd, xg, xN, xL, xF, xV, xC, (nI s), ph, cr, ec, en, ft, bt, pr, op, a, b, xp, fi, xl, nx, xo, fn, fe, vn, vo, vv, xst, xf, xr, xh, xc, fN, fX, fS, fT, fL, pv) (nI (s * 128 + h)) (fL ((s * 128 + h) * 4))) : wpX_conclude post (xd, xg, xN, xL, xF, xV, xC, (nI s), ph, cr, ec, en, ft, bt, pr, op, a, b, xp, fi, xl, nx, xo, fn, fe, vn, vo, vv, xst, xf, xr, xh, xc, fN, fX, fS, fT, fL, pv) (nI (s * 128 + h)) := by
  have ei := nc_ (n := s * 128 + h) (by omega)
  have e4 := nc_ (n := (s * 128 + h) * 4) (by omega)
  have em := nc_ (n := m) (by omega)
  have wm := vi_ (n := m) (N := 96) hm (by omega)
  have wi := vi_ (n := s * 128 + h) (N := 896) (by omega) (by omega)
  have w4 : vp_in (nI (s * 128 + h) * 4) 3584 := by rw [ix_4]; exact vi_ (by omega) (by omega)
  refine ⟨wi, ?_, nm_r (e' := op m) (by rw [ei, hn, em]) ⟨w4, nm_r (e' := fL ((s * 128 + h) * 4)) (by rw [ix_4, e4]) ?_⟩⟩
  · rw [ei, hn]; exact wm
  · rw [ho]
    exact (br_f (by decide) (br_f (by decide) (br_f (by decide) (br_f (by decide) (br_f (by decide) (br_f (by decide) (br_f (by decide) (br_t rfl K))))))))
theorem x_c11 {s h m : Nat} (hs : s < 7) (hb : h < 128) (hn : fN (s * 128 + h) = nI m) (hm : m < 96) (ho : op m = 11) (K : wpX_concludeCall post (xd, xg, xN, xL, xF, xV, xC, (nI s), ph, cr, ec, en, ft, bt, pr, op, a, b, xp, fi, xl, nx, xo, fn, fe, vn, vo, vv, xst, xf, xr, xh, xc, fN, fX, fS, fT, fL, pv) (nI (s * 128 + h)) (fL ((s * 128 + h) * 4))) : wpX_conclude post (xd, xg, xN, xL, xF, xV, xC, (nI s), ph, cr, ec, en, ft, bt, pr, op, a, b, xp, fi, xl, nx, xo, fn, fe, vn, vo, vv, xst, xf, xr, xh, xc, fN, fX, fS, fT, fL, pv) (nI (s * 128 + h)) := by
  have ei := nc_ (n := s * 128 + h) (by omega)
  have e4 := nc_ (n := (s * 128 + h) * 4) (by omega)
  have em := nc_ (n := m) (by omega)
  have wm := vi_ (n := m) (N := 96) hm (by omega)
  have wi := vi_ (n := s * 128 + h) (N := 896) (by omega) (by omega)
  have w4 : vp_in (nI (s * 128 + h) * 4) 3584 := by rw [ix_4]; exact vi_ (by omega) (by omega)
  refine ⟨wi, ?_, nm_r (e' := op m) (by rw [ei, hn, em]) ⟨w4, nm_r (e' := fL ((s * 128 + h) * 4)) (by rw [ix_4, e4]) ?_⟩⟩
  · rw [ei, hn]; exact wm
  · rw [ho]
    exact (br_f (by decide) (br_f (by decide) (br_f (by decide) (br_f (by decide) (br_f (by decide) (br_f (by decide) (br_f (by decide) (br_f (by decide) (br_f (by decide) (br_t rfl K))))))))))
theorem x_c13 {s h m : Nat} (hs : s < 7) (hb : h < 128) (hn : fN (s * 128 + h) = nI m) (hm : m < 96) (ho : op m = 13) (K : wpX_concludeError post (xd, xg, xN, xL, xF, xV, xC, (nI s), ph, cr, ec, en, ft, bt, pr, op, a, b, xp, fi, xl, nx, xo, fn, fe, vn, vo, vv, xst, xf, xr, xh, xc, fN, fX, fS, fT, fL, pv) (nI (s * 128 + h)) (fL ((s * 128 + h) * 4))) : wpX_conclude post (xd, xg, xN, xL, xF, xV, xC, (nI s), ph, cr, ec, en, ft, bt, pr, op, a, b, xp, fi, xl, nx, xo, fn, fe, vn, vo, vv, xst, xf, xr, xh, xc, fN, fX, fS, fT, fL, pv) (nI (s * 128 + h)) := by
  have ei := nc_ (n := s * 128 + h) (by omega)
  have e4 := nc_ (n := (s * 128 + h) * 4) (by omega)
  have em := nc_ (n := m) (by omega)
  have wm := vi_ (n := m) (N := 96) hm (by omega)
  have wi := vi_ (n := s * 128 + h) (N := 896) (by omega) (by omega)
  have w4 : vp_in (nI (s * 128 + h) * 4) 3584 := by rw [ix_4]; exact vi_ (by omega) (by omega)
  refine ⟨wi, ?_, nm_r (e' := op m) (by rw [ei, hn, em]) ⟨w4, nm_r (e' := fL ((s * 128 + h) * 4)) (by rw [ix_4, e4]) ?_⟩⟩
  · rw [ei, hn]; exact wm
  · rw [ho]
    exact (br_f (by decide) (br_f (by decide) (br_f (by decide) (br_f (by decide) (br_f (by decide) (br_f (by decide) (br_f (by decide) (br_f (by decide) (br_f (by decide) (br_f (by decide) (br_f (by decide) (br_t rfl K))))))))))))
theorem x_c15 {s h m : Nat} (hs : s < 7) (hb : h < 128) (hn : fN (s * 128 + h) = nI m) (hm : m < 96) (ho : op m = 15) (K : wpX_concludeCreate post (xd, xg, xN, xL, xF, xV, xC, (nI s), ph, cr, ec, en, ft, bt, pr, op, a, b, xp, fi, xl, nx, xo, fn, fe, vn, vo, vv, xst, xf, xr, xh, xc, fN, fX, fS, fT, fL, pv) (nI (s * 128 + h)) (fL ((s * 128 + h) * 4))) : wpX_conclude post (xd, xg, xN, xL, xF, xV, xC, (nI s), ph, cr, ec, en, ft, bt, pr, op, a, b, xp, fi, xl, nx, xo, fn, fe, vn, vo, vv, xst, xf, xr, xh, xc, fN, fX, fS, fT, fL, pv) (nI (s * 128 + h)) := by
  have ei := nc_ (n := s * 128 + h) (by omega)
  have e4 := nc_ (n := (s * 128 + h) * 4) (by omega)
  have em := nc_ (n := m) (by omega)
  have wm := vi_ (n := m) (N := 96) hm (by omega)
  have wi := vi_ (n := s * 128 + h) (N := 896) (by omega) (by omega)
  have w4 : vp_in (nI (s * 128 + h) * 4) 3584 := by rw [ix_4]; exact vi_ (by omega) (by omega)
  refine ⟨wi, ?_, nm_r (e' := op m) (by rw [ei, hn, em]) ⟨w4, nm_r (e' := fL ((s * 128 + h) * 4)) (by rw [ix_4, e4]) ?_⟩⟩
  · rw [ei, hn]; exact wm
  · rw [ho]
    exact (br_f (by decide) (br_f (by decide) (br_f (by decide) (br_f (by decide) (br_f (by decide) (br_f (by decide) (br_f (by decide) (br_f (by decide) (br_f (by decide) (br_f (by decide) (br_f (by decide) (br_f (by decide) (br_f (by decide) (br_t rfl K))))))))))))))
theorem x_c16 {s h m : Nat} (hs : s < 7) (hb : h < 128) (hn : fN (s * 128 + h) = nI m) (hm : m < 96) (ho : op m = 16) (K : wpX_concludeResume post (xd, xg, xN, xL, xF, xV, xC, (nI s), ph, cr, ec, en, ft, bt, pr, op, a, b, xp, fi, xl, nx, xo, fn, fe, vn, vo, vv, xst, xf, xr, xh, xc, fN, fX, fS, fT, fL, pv) (nI (s * 128 + h)) (fL ((s * 128 + h) * 4))) : wpX_conclude post (xd, xg, xN, xL, xF, xV, xC, (nI s), ph, cr, ec, en, ft, bt, pr, op, a, b, xp, fi, xl, nx, xo, fn, fe, vn, vo, vv, xst, xf, xr, xh, xc, fN, fX, fS, fT, fL, pv) (nI (s * 128 + h)) := by
  have ei := nc_ (n := s * 128 + h) (by omega)
  have e4 := nc_ (n := (s * 128 + h) * 4) (by omega)
  have em := nc_ (n := m) (by omega)
  have wm := vi_ (n := m) (N := 96) hm (by omega)
  have wi := vi_ (n := s * 128 + h) (N := 896) (by omega) (by omega)
  have w4 : vp_in (nI (s * 128 + h) * 4) 3584 := by rw [ix_4]; exact vi_ (by omega) (by omega)
  refine ⟨wi, ?_, nm_r (e' := op m) (by rw [ei, hn, em]) ⟨w4, nm_r (e' := fL ((s * 128 + h) * 4)) (by rw [ix_4, e4]) ?_⟩⟩
  · rw [ei, hn]; exact wm
  · rw [ho]
    exact (br_f (by decide) (br_f (by decide) (br_f (by decide) (br_f (by decide) (br_f (by decide) (br_f (by decide) (br_f (by decide) (br_f (by decide) (br_f (by decide) (br_f (by decide) (br_f (by decide) (br_f (by decide) (br_f (by decide) (br_f (by decide) (br_t rfl K)))))))))))))))
theorem x_c17 {s h m : Nat} (hs : s < 7) (hb : h < 128) (hn : fN (s * 128 + h) = nI m) (hm : m < 96) (ho : op m = 17) (K : wpX_concludeYield post (xd, xg, xN, xL, xF, xV, xC, (nI s), ph, cr, ec, en, ft, bt, pr, op, a, b, xp, fi, xl, nx, xo, fn, fe, vn, vo, vv, xst, xf, xr, xh, xc, fN, fX, fS, fT, fL, pv) (nI (s * 128 + h)) (fL ((s * 128 + h) * 4))) : wpX_conclude post (xd, xg, xN, xL, xF, xV, xC, (nI s), ph, cr, ec, en, ft, bt, pr, op, a, b, xp, fi, xl, nx, xo, fn, fe, vn, vo, vv, xst, xf, xr, xh, xc, fN, fX, fS, fT, fL, pv) (nI (s * 128 + h)) := by
  have ei := nc_ (n := s * 128 + h) (by omega)
  have e4 := nc_ (n := (s * 128 + h) * 4) (by omega)
  have em := nc_ (n := m) (by omega)
  have wm := vi_ (n := m) (N := 96) hm (by omega)
  have wi := vi_ (n := s * 128 + h) (N := 896) (by omega) (by omega)
  have w4 : vp_in (nI (s * 128 + h) * 4) 3584 := by rw [ix_4]; exact vi_ (by omega) (by omega)
  refine ⟨wi, ?_, nm_r (e' := op m) (by rw [ei, hn, em]) ⟨w4, nm_r (e' := fL ((s * 128 + h) * 4)) (by rw [ix_4, e4]) ?_⟩⟩
  · rw [ei, hn]; exact wm
  · rw [ho]
    exact (br_f (by decide) (br_f (by decide) (br_f (by decide) (br_f (by decide) (br_f (by decide) (br_f (by decide) (br_f (by decide) (br_f (by decide) (br_f (by decide) (br_f (by decide) (br_f (by decide) (br_f (by decide) (br_f (by decide) (br_f (by decide) (br_f (by decide) (br_t rfl K))))))))))))))))
theorem x_c18 {s h m : Nat} (hs : s < 7) (hb : h < 128) (hn : fN (s * 128 + h) = nI m) (hm : m < 96) (ho : op m = 18) (K : wpX_concludeStatus post (xd, xg, xN, xL, xF, xV, xC, (nI s), ph, cr, ec, en, ft, bt, pr, op, a, b, xp, fi, xl, nx, xo, fn, fe, vn, vo, vv, xst, xf, xr, xh, xc, fN, fX, fS, fT, fL, pv) (nI (s * 128 + h)) (fL ((s * 128 + h) * 4))) : wpX_conclude post (xd, xg, xN, xL, xF, xV, xC, (nI s), ph, cr, ec, en, ft, bt, pr, op, a, b, xp, fi, xl, nx, xo, fn, fe, vn, vo, vv, xst, xf, xr, xh, xc, fN, fX, fS, fT, fL, pv) (nI (s * 128 + h)) := by
  have ei := nc_ (n := s * 128 + h) (by omega)
  have e4 := nc_ (n := (s * 128 + h) * 4) (by omega)
  have em := nc_ (n := m) (by omega)
  have wm := vi_ (n := m) (N := 96) hm (by omega)
  have wi := vi_ (n := s * 128 + h) (N := 896) (by omega) (by omega)
  have w4 : vp_in (nI (s * 128 + h) * 4) 3584 := by rw [ix_4]; exact vi_ (by omega) (by omega)
  refine ⟨wi, ?_, nm_r (e' := op m) (by rw [ei, hn, em]) ⟨w4, nm_r (e' := fL ((s * 128 + h) * 4)) (by rw [ix_4, e4]) ?_⟩⟩
  · rw [ei, hn]; exact wm
  · rw [ho]
    exact (br_f (by decide) (br_f (by decide) (br_f (by decide) (br_f (by decide) (br_f (by decide) (br_f (by decide) (br_f (by decide) (br_f (by decide) (br_f (by decide) (br_f (by decide) (br_f (by decide) (br_f (by decide) (br_f (by decide) (br_f (by decide) (br_f (by decide) (br_f (by decide) (br_t rfl K)))))))))))))))))
theorem x_c12 {s h m : Nat} (hs : s < 7) (hb : h < 128) (hn : fN (s * 128 + h) = nI m) (hm : m < 96) (ho : op m = 12) (K : wpX_concludeReturn post (xd, xg, xN, xL, xF, xV, xC, (nI s), ph, cr, ec, en, ft, bt, pr, op, a, b, xp, fi, xl, nx, xo, fn, fe, vn, vo, vv, xst, xf, xr, xh, xc, fN, fX, fS, fT, fL, pv) (fL ((s * 128 + h) * 4))) : wpX_conclude post (xd, xg, xN, xL, xF, xV, xC, (nI s), ph, cr, ec, en, ft, bt, pr, op, a, b, xp, fi, xl, nx, xo, fn, fe, vn, vo, vv, xst, xf, xr, xh, xc, fN, fX, fS, fT, fL, pv) (nI (s * 128 + h)) := by
  have ei := nc_ (n := s * 128 + h) (by omega)
  have e4 := nc_ (n := (s * 128 + h) * 4) (by omega)
  have em := nc_ (n := m) (by omega)
  have wm := vi_ (n := m) (N := 96) hm (by omega)
  have wi := vi_ (n := s * 128 + h) (N := 896) (by omega) (by omega)
  have w4 : vp_in (nI (s * 128 + h) * 4) 3584 := by rw [ix_4]; exact vi_ (by omega) (by omega)
  refine ⟨wi, ?_, nm_r (e' := op m) (by rw [ei, hn, em]) ⟨w4, nm_r (e' := fL ((s * 128 + h) * 4)) (by rw [ix_4, e4]) ?_⟩⟩
  · rw [ei, hn]; exact wm
  · rw [ho]
    exact (br_f (by decide) (br_f (by decide) (br_f (by decide) (br_f (by decide) (br_f (by decide) (br_f (by decide) (br_f (by decide) (br_f (by decide) (br_f (by decide) (br_f (by decide) (br_t rfl K)))))))))))
theorem x_c14 {s h m : Nat} (hs : s < 7) (hb : h < 128) (hn : fN (s * 128 + h) = nI m) (hm : m < 96) (ho : op m = 14) (K : wpX_concludePrint post (xd, xg, xN, xL, xF, xV, xC, (nI s), ph, cr, ec, en, ft, bt, pr, op, a, b, xp, fi, xl, nx, xo, fn, fe, vn, vo, vv, xst, xf, xr, xh, xc, fN, fX, fS, fT, fL, pv) (fL ((s * 128 + h) * 4))) : wpX_conclude post (xd, xg, xN, xL, xF, xV, xC, (nI s), ph, cr, ec, en, ft, bt, pr, op, a, b, xp, fi, xl, nx, xo, fn, fe, vn, vo, vv, xst, xf, xr, xh, xc, fN, fX, fS, fT, fL, pv) (nI (s * 128 + h)) := by
  have ei := nc_ (n := s * 128 + h) (by omega)
  have e4 := nc_ (n := (s * 128 + h) * 4) (by omega)
  have em := nc_ (n := m) (by omega)
  have wm := vi_ (n := m) (N := 96) hm (by omega)
  have wi := vi_ (n := s * 128 + h) (N := 896) (by omega) (by omega)
  have w4 : vp_in (nI (s * 128 + h) * 4) 3584 := by rw [ix_4]; exact vi_ (by omega) (by omega)
  refine ⟨wi, ?_, nm_r (e' := op m) (by rw [ei, hn, em]) ⟨w4, nm_r (e' := fL ((s * 128 + h) * 4)) (by rw [ix_4, e4]) ?_⟩⟩
  · rw [ei, hn]; exact wm
  · rw [ho]
    exact (br_f (by decide) (br_f (by decide) (br_f (by decide) (br_f (by decide) (br_f (by decide) (br_f (by decide) (br_f (by decide) (br_f (by decide) (br_f (by decide) (br_f (by decide) (br_f (by decide) (br_f (by decide) (br_t rfl K)))))))))))))
theorem x_c10 {s h m : Nat} (hs : s < 7) (hb : h < 128) (hn : fN (s * 128 + h) = nI m) (hm : m < 96) (ho : op m = 10) {c : Nat} (hc : xc s = nI (c + 1)) (K : wpX_finish post (xd, xg, xN, xL, xF, xV, xC, (nI s), ph, cr, ec, en, ft, bt, pr, op, a, b, xp, fi, xl, nx, xo, fn, fe, vn, vo, vv, xst, xf, xr, xh, (upd xc s (nI c)), fN, fX, fS, fT, fL, pv) (fL ((s * 128 + h) * 4))) : wpX_conclude post (xd, xg, xN, xL, xF, xV, xC, (nI s), ph, cr, ec, en, ft, bt, pr, op, a, b, xp, fi, xl, nx, xo, fn, fe, vn, vo, vv, xst, xf, xr, xh, xc, fN, fX, fS, fT, fL, pv) (nI (s * 128 + h)) := by
  have ei := nc_ (n := s * 128 + h) (by omega)
  have e4 := nc_ (n := (s * 128 + h) * 4) (by omega)
  have em := nc_ (n := m) (by omega)
  have wm := vi_ (n := m) (N := 96) hm (by omega)
  have wi := vi_ (n := s * 128 + h) (N := 896) (by omega) (by omega)
  have w4 : vp_in (nI (s * 128 + h) * 4) 3584 := by rw [ix_4]; exact vi_ (by omega) (by omega)
  refine ⟨wi, ?_, nm_r (e' := op m) (by rw [ei, hn, em]) ⟨w4, nm_r (e' := fL ((s * 128 + h) * 4)) (by rw [ix_4, e4]) ?_⟩⟩
  · rw [ei, hn]; exact wm
  · rw [ho]
    exact (br_f (by decide) (br_f (by decide) (br_f (by decide) (br_f (by decide) (br_f (by decide) (br_f (by decide) (br_f (by decide) (br_f (by decide) (br_t rfl ⟨vi_ hs (by omega), vi_ hs (by omega), nm_r (e' := upd xc s (nI c)) (by rw [nc_ (by omega), hc, nI_pred]) K⟩)))))))))
theorem x_c4 {s h m : Nat} (hs : s < 7) (hb : h < 128) (hn : fN (s * 128 + h) = nI m) (hm : m < 96) (ho : op m = 4) (K : wpX_finishNumber post (xd, xg, xN, xL, xF, xV, xC, (nI s), ph, cr, ec, en, ft, bt, pr, op, a, b, xp, fi, xl, nx, xo, fn, fe, vn, vo, vv, xst, xf, xr, xh, xc, fN, fX, fS, fT, fL, pv) (if fL ((s * 128 + h) * 4) = fL ((s * 128 + h) * 4 + 1) then 1 else 0)) : wpX_conclude post (xd, xg, xN, xL, xF, xV, xC, (nI s), ph, cr, ec, en, ft, bt, pr, op, a, b, xp, fi, xl, nx, xo, fn, fe, vn, vo, vv, xst, xf, xr, xh, xc, fN, fX, fS, fT, fL, pv) (nI (s * 128 + h)) := by
  have ei := nc_ (n := s * 128 + h) (by omega)
  have e4 := nc_ (n := (s * 128 + h) * 4) (by omega)
  have em := nc_ (n := m) (by omega)
  have wm := vi_ (n := m) (N := 96) hm (by omega)
  have wi := vi_ (n := s * 128 + h) (N := 896) (by omega) (by omega)
  have w4 : vp_in (nI (s * 128 + h) * 4) 3584 := by rw [ix_4]; exact vi_ (by omega) (by omega)
  have e5 := nc_ (n := (s * 128 + h) * 4 + 1) (by omega)
  have w5 : vp_in (nI (s * 128 + h) * 4 + 1) 3584 := by rw [ix_41]; exact vi_ (by omega) (by omega)
  refine ⟨wi, ?_, nm_r (e' := op m) (by rw [ei, hn, em]) ⟨w4, nm_r (e' := fL ((s * 128 + h) * 4)) (by rw [ix_4, e4]) ?_⟩⟩
  · rw [ei, hn]; exact wm
  · rw [ho]
    refine br_f (by decide) (br_f (by decide) (br_t rfl ⟨w5, ?_⟩))
    rw [ix_41, e5]
    exact br_c (fun h1 => by rw [if_pos h1] at K; exact K) (fun h1 => by rw [if_neg h1] at K; exact K)
theorem x_c0 {s h m : Nat} (hs : s < 7) (hb : h < 128) (hn : fN (s * 128 + h) = nI m) (hm : m < 96) (ho : op m = 0) (K : wpX_concludeArithmetic post (xd, xg, xN, xL, xF, xV, xC, (nI s), ph, cr, ec, en, ft, bt, pr, op, a, b, xp, fi, xl, nx, xo, fn, fe, vn, vo, vv, xst, xf, xr, xh, xc, fN, fX, fS, fT, fL, pv) (nI (s * 128 + h)) (fL ((s * 128 + h) * 4))) : wpX_conclude post (xd, xg, xN, xL, xF, xV, xC, (nI s), ph, cr, ec, en, ft, bt, pr, op, a, b, xp, fi, xl, nx, xo, fn, fe, vn, vo, vv, xst, xf, xr, xh, xc, fN, fX, fS, fT, fL, pv) (nI (s * 128 + h)) := by
  have ei := nc_ (n := s * 128 + h) (by omega)
  have e4 := nc_ (n := (s * 128 + h) * 4) (by omega)
  have em := nc_ (n := m) (by omega)
  have wm := vi_ (n := m) (N := 96) hm (by omega)
  have wi := vi_ (n := s * 128 + h) (N := 896) (by omega) (by omega)
  have w4 : vp_in (nI (s * 128 + h) * 4) 3584 := by rw [ix_4]; exact vi_ (by omega) (by omega)
  refine ⟨wi, ?_, nm_r (e' := op m) (by rw [ei, hn, em]) ⟨w4, nm_r (e' := fL ((s * 128 + h) * 4)) (by rw [ix_4, e4]) ?_⟩⟩
  · rw [ei, hn]; exact wm
  · rw [ho]
    exact br_t (by decide) K
theorem x_c1 {s h m : Nat} (hs : s < 7) (hb : h < 128) (hn : fN (s * 128 + h) = nI m) (hm : m < 96) (ho : op m = 1) (K : wpX_concludeArithmetic post (xd, xg, xN, xL, xF, xV, xC, (nI s), ph, cr, ec, en, ft, bt, pr, op, a, b, xp, fi, xl, nx, xo, fn, fe, vn, vo, vv, xst, xf, xr, xh, xc, fN, fX, fS, fT, fL, pv) (nI (s * 128 + h)) (fL ((s * 128 + h) * 4))) : wpX_conclude post (xd, xg, xN, xL, xF, xV, xC, (nI s), ph, cr, ec, en, ft, bt, pr, op, a, b, xp, fi, xl, nx, xo, fn, fe, vn, vo, vv, xst, xf, xr, xh, xc, fN, fX, fS, fT, fL, pv) (nI (s * 128 + h)) := by
  have ei := nc_ (n := s * 128 + h) (by omega)
  have e4 := nc_ (n := (s * 128 + h) * 4) (by omega)
  have em := nc_ (n := m) (by omega)
  have wm := vi_ (n := m) (N := 96) hm (by omega)
  have wi := vi_ (n := s * 128 + h) (N := 896) (by omega) (by omega)
  have w4 : vp_in (nI (s * 128 + h) * 4) 3584 := by rw [ix_4]; exact vi_ (by omega) (by omega)
  refine ⟨wi, ?_, nm_r (e' := op m) (by rw [ei, hn, em]) ⟨w4, nm_r (e' := fL ((s * 128 + h) * 4)) (by rw [ix_4, e4]) ?_⟩⟩
  · rw [ei, hn]; exact wm
  · rw [ho]
    exact br_t (by decide) K
theorem x_c2 {s h m : Nat} (hs : s < 7) (hb : h < 128) (hn : fN (s * 128 + h) = nI m) (hm : m < 96) (ho : op m = 2) (K : wpX_concludeArithmetic post (xd, xg, xN, xL, xF, xV, xC, (nI s), ph, cr, ec, en, ft, bt, pr, op, a, b, xp, fi, xl, nx, xo, fn, fe, vn, vo, vv, xst, xf, xr, xh, xc, fN, fX, fS, fT, fL, pv) (nI (s * 128 + h)) (fL ((s * 128 + h) * 4))) : wpX_conclude post (xd, xg, xN, xL, xF, xV, xC, (nI s), ph, cr, ec, en, ft, bt, pr, op, a, b, xp, fi, xl, nx, xo, fn, fe, vn, vo, vv, xst, xf, xr, xh, xc, fN, fX, fS, fT, fL, pv) (nI (s * 128 + h)) := by
  have ei := nc_ (n := s * 128 + h) (by omega)
  have e4 := nc_ (n := (s * 128 + h) * 4) (by omega)
  have em := nc_ (n := m) (by omega)
  have wm := vi_ (n := m) (N := 96) hm (by omega)
  have wi := vi_ (n := s * 128 + h) (N := 896) (by omega) (by omega)
  have w4 : vp_in (nI (s * 128 + h) * 4) 3584 := by rw [ix_4]; exact vi_ (by omega) (by omega)
  refine ⟨wi, ?_, nm_r (e' := op m) (by rw [ei, hn, em]) ⟨w4, nm_r (e' := fL ((s * 128 + h) * 4)) (by rw [ix_4, e4]) ?_⟩⟩
  · rw [ei, hn]; exact wm
  · rw [ho]
    exact br_t (by decide) K
theorem x_c3 {s h m : Nat} (hs : s < 7) (hb : h < 128) (hn : fN (s * 128 + h) = nI m) (hm : m < 96) (ho : op m = 3) (K : wpX_concludeArithmetic post (xd, xg, xN, xL, xF, xV, xC, (nI s), ph, cr, ec, en, ft, bt, pr, op, a, b, xp, fi, xl, nx, xo, fn, fe, vn, vo, vv, xst, xf, xr, xh, xc, fN, fX, fS, fT, fL, pv) (nI (s * 128 + h)) (fL ((s * 128 + h) * 4))) : wpX_conclude post (xd, xg, xN, xL, xF, xV, xC, (nI s), ph, cr, ec, en, ft, bt, pr, op, a, b, xp, fi, xl, nx, xo, fn, fe, vn, vo, vv, xst, xf, xr, xh, xc, fN, fX, fS, fT, fL, pv) (nI (s * 128 + h)) := by
  have ei := nc_ (n := s * 128 + h) (by omega)
  have e4 := nc_ (n := (s * 128 + h) * 4) (by omega)
  have em := nc_ (n := m) (by omega)
  have wm := vi_ (n := m) (N := 96) hm (by omega)
  have wi := vi_ (n := s * 128 + h) (N := 896) (by omega) (by omega)
  have w4 : vp_in (nI (s * 128 + h) * 4) 3584 := by rw [ix_4]; exact vi_ (by omega) (by omega)
  refine ⟨wi, ?_, nm_r (e' := op m) (by rw [ei, hn, em]) ⟨w4, nm_r (e' := fL ((s * 128 + h) * 4)) (by rw [ix_4, e4]) ?_⟩⟩
  · rw [ei, hn]; exact wm
  · rw [ho]
    exact br_t (by decide) K
theorem x_del {s h : Nat} (hs : s < 7) (hb : h < 128) (hh : xh s = nI (h + 1)) (K : wpX_take post (xd, xg, xN, xL, xF, xV, xC, (nI s), (-1), cr, ec, en, ft, bt, pr, op, a, b, xp, fi, xl, nx, xo, fn, fe, vn, vo, vv, xst, xf, xr, xh, xc, fN, fX, fS, fT, fL, pv)) : wpX_deliver post (xd, xg, xN, xL, xF, xV, xC, (nI s), ph, cr, ec, en, ft, bt, pr, op, a, b, xp, fi, xl, nx, xo, fn, fe, vn, vo, vv, xst, xf, xr, xh, xc, fN, fX, fS, fT, fL, pv) := by
  have e := nc_ (n := s) (by omega)
  refine ⟨vi_ hs (by omega), br_f ?_ K⟩
  rw [e, hh]; exact nI_nle (by omega) (by omega)
theorem x_takeD {s h m o t : Nat} (hs : s < 7) (hb : h < 128) (hh : xh s = nI (h + 1)) (hn : fN (s * 128 + h) = nI m) (hm : m < 96) (ho : op m = nI o) (ho2 : o ≤ 21) (ht : fT (s * 128 + h) = nI t) (hd : o < 5 ∨ 10 < o ∨ o = 9) (h4 : t < 4) (K : post (xd, xg, xN, xL, xF, xV, xC, (nI s), ph, cr, ec, en, ft, bt, pr, op, a, b, xp, fi, xl, nx, xo, fn, fe, vn, vo, vv, xst, xf, xr, xh, xc, fN, fX, fS, (upd fT (s * 128 + h) (nI (t + 1))), (vp_updL fL ((s * 128 + h) * 4 + t) cr), pv)) : wpX_take post (xd, xg, xN, xL, xF, xV, xC, (nI s), ph, cr, ec, en, ft, bt, pr, op, a, b, xp, fi, xl, nx, xo, fn, fe, vn, vo, vv, xst, xf, xr, xh, xc, fN, fX, fS, fT, fL, pv) := by
  have ei := nc_ (n := s * 128 + h) (by omega)
  have e4 := nc_ (n := (s * 128 + h) * 4) (by omega)
  have em := nc_ (n := m) (by omega)
  have wm := vi_ (n := m) (N := 96) hm (by omega)
  have wi := vi_ (n := s * 128 + h) (N := 896) (by omega) (by omega)
  have w4 : vp_in (nI (s * 128 + h) * 4) 3584 := by rw [ix_4]; exact vi_ (by omega) (by omega)
  unfold wpX_take
  dsimp only
  refine x_top hs hh ?_
  refine ⟨wi, nm_r (e' := nI t) (by rw [ei, ht]) ⟨wi, wi, nm_r (e' := upd fT (s * 128 + h) (nI (t + 1))) (by rw [ei, ht, nI_1]) (nm_r (e' := nI ((s * 128 + h) * 4)) (ix_4 _) ⟨wi, ?_, nm_r (e' := nI o) (by rw [ei, hn, em, ho]) ?_⟩)⟩⟩
  · rw [ei, hn]; exact wm
  · have k2 : ∀ (P : Prop), P → (vp_in (nI ((s * 128 + h) * 4) + nI t) 3584 ∧ P) := fun P h => ⟨by rw [nI_add]; exact vi_ (by omega) (by omega), h⟩
    have e5 := nc_ (n := (s * 128 + h) * 4 + t) (by omega)
    have hD : ∀ y : Nat → Int64, y = vp_updL fL (nI ((s * 128 + h) * 4) + nI t).toNatClampNeg cr → y = vp_updL fL ((s * 128 + h) * 4 + t) cr := fun y hy => by rw [hy, nI_add, e5]
    rcases hd with h5 | h5 | h5
    · refine br_t (nI_lt (b := 5) h5 (by omega)) (k2 _ (fun y hy => ?_))
      rw [hD y hy]; exact K
    · refine br_f (nI_nlt (b := 5) (by omega) (by omega)) (br_t (nI_lt (a := 10) h5 (by omega)) (k2 _ (fun y hy => ?_)))
      rw [hD y hy]; exact K
    · subst h5
      refine br_f (by decide) (br_f (by decide) (br_f (by decide) (br_f (by decide) (br_f (by decide) (br_f (by decide) (br_t rfl (k2 _ (fun y hy => ?_))))))))
      rw [hD y hy]; exact K
theorem x_take6 {s h m o t : Nat} (hs : s < 7) (hb : h < 128) (hh : xh s = nI (h + 1)) (hn : fN (s * 128 + h) = nI m) (hm : m < 96) (ho : op m = nI o) (ho2 : o ≤ 21) (ht : fT (s * 128 + h) = nI t) (hd : o = 6) (K : post (xd, xg, xN, xL, xF, xV, xC, (nI s), ph, cr, ec, en, ft, bt, pr, op, a, b, xp, fi, xl, nx, xo, fn, fe, vn, vo, vv, xst, xf, xr, xh, xc, fN, fX, fS, (upd fT (s * 128 + h) (nI (t + 1))), (vp_updL fL ((s * 128 + h) * 4) cr), pv)) : wpX_take post (xd, xg, xN, xL, xF, xV, xC, (nI s), ph, cr, ec, en, ft, bt, pr, op, a, b, xp, fi, xl, nx, xo, fn, fe, vn, vo, vv, xst, xf, xr, xh, xc, fN, fX, fS, fT, fL, pv) := by
  have ei := nc_ (n := s * 128 + h) (by omega)
  have e4 := nc_ (n := (s * 128 + h) * 4) (by omega)
  have em := nc_ (n := m) (by omega)
  have wm := vi_ (n := m) (N := 96) hm (by omega)
  have wi := vi_ (n := s * 128 + h) (N := 896) (by omega) (by omega)
  have w4 : vp_in (nI (s * 128 + h) * 4) 3584 := by rw [ix_4]; exact vi_ (by omega) (by omega)
  unfold wpX_take
  dsimp only
  refine x_top hs hh ?_
  refine ⟨wi, nm_r (e' := nI t) (by rw [ei, ht]) ⟨wi, wi, nm_r (e' := upd fT (s * 128 + h) (nI (t + 1))) (by rw [ei, ht, nI_1]) (nm_r (e' := nI ((s * 128 + h) * 4)) (ix_4 _) ⟨wi, ?_, nm_r (e' := nI o) (by rw [ei, hn, em, ho]) ?_⟩)⟩⟩
  · rw [ei, hn]; exact wm
  · subst hd
    exact br_f (by decide) (br_f (by decide) (br_f (by decide) (br_t rfl ⟨vi_ (by omega) (by omega), nm_r (e' := vp_updL fL ((s * 128 + h) * 4) cr) (by rw [e4]) K⟩)))
theorem x_take10 {s h m o t : Nat} (hs : s < 7) (hb : h < 128) (hh : xh s = nI (h + 1)) (hn : fN (s * 128 + h) = nI m) (hm : m < 96) (ho : op m = nI o) (ho2 : o ≤ 21) (ht : fT (s * 128 + h) = nI t) (hd : o = 10) (K : post (xd, xg, xN, xL, xF, xV, xC, (nI s), ph, cr, ec, en, ft, bt, pr, op, a, b, xp, fi, xl, nx, xo, fn, fe, vn, vo, vv, xst, xf, xr, xh, xc, fN, fX, fS, (upd fT (s * 128 + h) (nI (t + 1))), (vp_updL fL ((s * 128 + h) * 4) cr), pv)) : wpX_take post (xd, xg, xN, xL, xF, xV, xC, (nI s), ph, cr, ec, en, ft, bt, pr, op, a, b, xp, fi, xl, nx, xo, fn, fe, vn, vo, vv, xst, xf, xr, xh, xc, fN, fX, fS, fT, fL, pv) := by
  have ei := nc_ (n := s * 128 + h) (by omega)
  have e4 := nc_ (n := (s * 128 + h) * 4) (by omega)
  have em := nc_ (n := m) (by omega)
  have wm := vi_ (n := m) (N := 96) hm (by omega)
  have wi := vi_ (n := s * 128 + h) (N := 896) (by omega) (by omega)
  have w4 : vp_in (nI (s * 128 + h) * 4) 3584 := by rw [ix_4]; exact vi_ (by omega) (by omega)
  unfold wpX_take
  dsimp only
  refine x_top hs hh ?_
  refine ⟨wi, nm_r (e' := nI t) (by rw [ei, ht]) ⟨wi, wi, nm_r (e' := upd fT (s * 128 + h) (nI (t + 1))) (by rw [ei, ht, nI_1]) (nm_r (e' := nI ((s * 128 + h) * 4)) (ix_4 _) ⟨wi, ?_, nm_r (e' := nI o) (by rw [ei, hn, em, ho]) ?_⟩)⟩⟩
  · rw [ei, hn]; exact wm
  · subst hd
    exact br_f (by decide) (br_f (by decide) (br_f (by decide) (br_f (by decide) (br_f (by decide) (br_f (by decide) (br_f (by decide) (br_t rfl ⟨vi_ (by omega) (by omega), nm_r (e' := vp_updL fL ((s * 128 + h) * 4) cr) (by rw [e4]) K⟩)))))))
theorem x_take5 {s h m o t : Nat} (hs : s < 7) (hb : h < 128) (hh : xh s = nI (h + 1)) (hn : fN (s * 128 + h) = nI m) (hm : m < 96) (ho : op m = nI o) (ho2 : o ≤ 21) (ht : fT (s * 128 + h) = nI t) (hd : o = 5) (K : wpX_takeInIf post (xd, xg, xN, xL, xF, xV, xC, (nI s), ph, cr, ec, en, ft, bt, pr, op, a, b, xp, fi, xl, nx, xo, fn, fe, vn, vo, vv, xst, xf, xr, xh, xc, fN, fX, fS, (upd fT (s * 128 + h) (nI (t + 1))), fL, pv) (nI (s * 128 + h)) (nI t)) : wpX_take post (xd, xg, xN, xL, xF, xV, xC, (nI s), ph, cr, ec, en, ft, bt, pr, op, a, b, xp, fi, xl, nx, xo, fn, fe, vn, vo, vv, xst, xf, xr, xh, xc, fN, fX, fS, fT, fL, pv) := by
  have ei := nc_ (n := s * 128 + h) (by omega)
  have e4 := nc_ (n := (s * 128 + h) * 4) (by omega)
  have em := nc_ (n := m) (by omega)
  have wm := vi_ (n := m) (N := 96) hm (by omega)
  have wi := vi_ (n := s * 128 + h) (N := 896) (by omega) (by omega)
  have w4 : vp_in (nI (s * 128 + h) * 4) 3584 := by rw [ix_4]; exact vi_ (by omega) (by omega)
  unfold wpX_take
  dsimp only
  refine x_top hs hh ?_
  refine ⟨wi, nm_r (e' := nI t) (by rw [ei, ht]) ⟨wi, wi, nm_r (e' := upd fT (s * 128 + h) (nI (t + 1))) (by rw [ei, ht, nI_1]) (nm_r (e' := nI ((s * 128 + h) * 4)) (ix_4 _) ⟨wi, ?_, nm_r (e' := nI o) (by rw [ei, hn, em, ho]) ?_⟩)⟩⟩
  · rw [ei, hn]; exact wm
  · subst hd
    exact br_f (by decide) (br_f (by decide) (br_t rfl K))
theorem x_take8 {s h m o t : Nat} (hs : s < 7) (hb : h < 128) (hh : xh s = nI (h + 1)) (hn : fN (s * 128 + h) = nI m) (hm : m < 96) (ho : op m = nI o) (ho2 : o ≤ 21) (ht : fT (s * 128 + h) = nI t) (hd : o = 8) (K : wpX_takeInLocal post (xd, xg, xN, xL, xF, xV, xC, (nI s), ph, cr, ec, en, ft, bt, pr, op, a, b, xp, fi, xl, nx, xo, fn, fe, vn, vo, vv, xst, xf, xr, xh, xc, fN, fX, fS, (upd fT (s * 128 + h) (nI (t + 1))), fL, pv) (nI (s * 128 + h)) (nI t)) : wpX_take post (xd, xg, xN, xL, xF, xV, xC, (nI s), ph, cr, ec, en, ft, bt, pr, op, a, b, xp, fi, xl, nx, xo, fn, fe, vn, vo, vv, xst, xf, xr, xh, xc, fN, fX, fS, fT, fL, pv) := by
  have ei := nc_ (n := s * 128 + h) (by omega)
  have e4 := nc_ (n := (s * 128 + h) * 4) (by omega)
  have em := nc_ (n := m) (by omega)
  have wm := vi_ (n := m) (N := 96) hm (by omega)
  have wi := vi_ (n := s * 128 + h) (N := 896) (by omega) (by omega)
  have w4 : vp_in (nI (s * 128 + h) * 4) 3584 := by rw [ix_4]; exact vi_ (by omega) (by omega)
  unfold wpX_take
  dsimp only
  refine x_top hs hh ?_
  refine ⟨wi, nm_r (e' := nI t) (by rw [ei, ht]) ⟨wi, wi, nm_r (e' := upd fT (s * 128 + h) (nI (t + 1))) (by rw [ei, ht, nI_1]) (nm_r (e' := nI ((s * 128 + h) * 4)) (ix_4 _) ⟨wi, ?_, nm_r (e' := nI o) (by rw [ei, hn, em, ho]) ?_⟩)⟩⟩
  · rw [ei, hn]; exact wm
  · subst hd
    exact br_f (by decide) (br_f (by decide) (br_f (by decide) (br_f (by decide) (br_f (by decide) (br_t rfl K)))))
theorem x_take7a {s h m o t : Nat} (hs : s < 7) (hb : h < 128) (hh : xh s = nI (h + 1)) (hn : fN (s * 128 + h) = nI m) (hm : m < 96) (ho : op m = nI o) (ho2 : o ≤ 21) (ht : fT (s * 128 + h) = nI t) (hd : o = 7) (h0 : t ≠ 0) (h9 : t < 1000) (K : post (xd, xg, xN, xL, xF, xV, xC, (nI s), ph, cr, ec, en, ft, bt, pr, op, a, b, xp, fi, xl, nx, xo, fn, fe, vn, vo, vv, xst, xf, xr, xh, xc, fN, fX, fS, (upd fT (s * 128 + h) (nI (t + 1))), fL, pv)) : wpX_take post (xd, xg, xN, xL, xF, xV, xC, (nI s), ph, cr, ec, en, ft, bt, pr, op, a, b, xp, fi, xl, nx, xo, fn, fe, vn, vo, vv, xst, xf, xr, xh, xc, fN, fX, fS, fT, fL, pv) := by
  have ei := nc_ (n := s * 128 + h) (by omega)
  have e4 := nc_ (n := (s * 128 + h) * 4) (by omega)
  have em := nc_ (n := m) (by omega)
  have wm := vi_ (n := m) (N := 96) hm (by omega)
  have wi := vi_ (n := s * 128 + h) (N := 896) (by omega) (by omega)
  have w4 : vp_in (nI (s * 128 + h) * 4) 3584 := by rw [ix_4]; exact vi_ (by omega) (by omega)
  unfold wpX_take
  dsimp only
  refine x_top hs hh ?_
  refine ⟨wi, nm_r (e' := nI t) (by rw [ei, ht]) ⟨wi, wi, nm_r (e' := upd fT (s * 128 + h) (nI (t + 1))) (by rw [ei, ht, nI_1]) (nm_r (e' := nI ((s * 128 + h) * 4)) (ix_4 _) ⟨wi, ?_, nm_r (e' := nI o) (by rw [ei, hn, em, ho]) ?_⟩)⟩⟩
  · rw [ei, hn]; exact wm
  · subst hd
    exact br_f (by decide) (br_f (by decide) (br_f (by decide) (br_f (by decide) (br_t rfl (br_f (nI_ne0 (by omega) (by omega)) K)))))
theorem x_take7b {s h m o t : Nat} (hs : s < 7) (hb : h < 128) (hh : xh s = nI (h + 1)) (hn : fN (s * 128 + h) = nI m) (hm : m < 96) (ho : op m = nI o) (ho2 : o ≤ 21) (ht : fT (s * 128 + h) = nI t) (hd : o = 7) (h0 : t = 0) (hf : ∀ q : Int32 → Prop, q 0 → wpX_isFalse q cr) (K : post (xd, xg, xN, xL, xF, xV, xC, (nI s), ph, cr, ec, en, ft, bt, pr, op, a, b, xp, fi, xl, nx, xo, fn, fe, vn, vo, vv, xst, xf, xr, xh, xc, fN, fX, fS, (upd fT (s * 128 + h) (nI (t + 1))), fL, pv)) : wpX_take post (xd, xg, xN, xL, xF, xV, xC, (nI s), ph, cr, ec, en, ft, bt, pr, op, a, b, xp, fi, xl, nx, xo, fn, fe, vn, vo, vv, xst, xf, xr, xh, xc, fN, fX, fS, fT, fL, pv) := by
  have ei := nc_ (n := s * 128 + h) (by omega)
  have e4 := nc_ (n := (s * 128 + h) * 4) (by omega)
  have em := nc_ (n := m) (by omega)
  have wm := vi_ (n := m) (N := 96) hm (by omega)
  have wi := vi_ (n := s * 128 + h) (N := 896) (by omega) (by omega)
  have w4 : vp_in (nI (s * 128 + h) * 4) 3584 := by rw [ix_4]; exact vi_ (by omega) (by omega)
  unfold wpX_take
  dsimp only
  refine x_top hs hh ?_
  refine ⟨wi, nm_r (e' := nI t) (by rw [ei, ht]) ⟨wi, wi, nm_r (e' := upd fT (s * 128 + h) (nI (t + 1))) (by rw [ei, ht, nI_1]) (nm_r (e' := nI ((s * 128 + h) * 4)) (ix_4 _) ⟨wi, ?_, nm_r (e' := nI o) (by rw [ei, hn, em, ho]) ?_⟩)⟩⟩
  · rw [ei, hn]; exact wm
  · subst hd h0
    exact br_f (by decide) (br_f (by decide) (br_f (by decide) (br_f (by decide) (br_t rfl (br_t rfl (hf _ (br_t rfl K)))))))
theorem x_take7c {s h m o t : Nat} (hs : s < 7) (hb : h < 128) (hh : xh s = nI (h + 1)) (hn : fN (s * 128 + h) = nI m) (hm : m < 96) (ho : op m = nI o) (ho2 : o ≤ 21) (ht : fT (s * 128 + h) = nI t) (hd : o = 7) (h0 : t = 0) (hf : ∀ q : Int32 → Prop, q 1 → wpX_isFalse q cr) (K : post (xd, xg, xN, xL, xF, xV, xC, (nI s), (-2), 0, ec, en, ft, bt, pr, op, a, b, xp, fi, xl, nx, xo, fn, fe, vn, vo, vv, xst, xf, xr, (upd xh s (nI h)), xc, fN, fX, fS, (upd fT (s * 128 + h) (nI (t + 1))), fL, pv)) : wpX_take post (xd, xg, xN, xL, xF, xV, xC, (nI s), ph, cr, ec, en, ft, bt, pr, op, a, b, xp, fi, xl, nx, xo, fn, fe, vn, vo, vv, xst, xf, xr, xh, xc, fN, fX, fS, fT, fL, pv) := by
  have ei := nc_ (n := s * 128 + h) (by omega)
  have e4 := nc_ (n := (s * 128 + h) * 4) (by omega)
  have em := nc_ (n := m) (by omega)
  have wm := vi_ (n := m) (N := 96) hm (by omega)
  have wi := vi_ (n := s * 128 + h) (N := 896) (by omega) (by omega)
  have w4 : vp_in (nI (s * 128 + h) * 4) 3584 := by rw [ix_4]; exact vi_ (by omega) (by omega)
  unfold wpX_take
  dsimp only
  refine x_top hs hh ?_
  refine ⟨wi, nm_r (e' := nI t) (by rw [ei, ht]) ⟨wi, wi, nm_r (e' := upd fT (s * 128 + h) (nI (t + 1))) (by rw [ei, ht, nI_1]) (nm_r (e' := nI ((s * 128 + h) * 4)) (ix_4 _) ⟨wi, ?_, nm_r (e' := nI o) (by rw [ei, hn, em, ho]) ?_⟩)⟩⟩
  · rw [ei, hn]; exact wm
  · subst hd h0
    exact br_f (by decide) (br_f (by decide) (br_f (by decide) (br_f (by decide) (br_t rfl (br_t rfl (hf _ (br_f (by decide) (x_finish hs hh K))))))))
end
end
section
section
variable {yd yg yN yi yo yV yF yC ys yft ybt res yer ypl ypr rn hs : Int32} {gv gt : Int64} {op a b pa fi nx yp wn wu gn ge : Nat → Int32} {wv : Nat → Int64} {yl ya ye : Nat → Int32} {yk : Nat → Int64} {yt yc yst yf yr : Nat → Int32} {ou : Nat → Int64}
variable {post : SY → Prop}
theorem y_Dn {s w n i p o : Nat} {v : Int64} (h7 : s < 7) (ht : yt s = nI (w + 1)) (hw : w < 112) (hl : yl (112 * s + w) = nI n) (hn : n < 96) (ha : ya (112 * s + w) = nI i) (hp : yp n = nI p) (hi : i < 100) (hp9 : p < 100) (ho : op n = nI o) (hz : i + 1 ≠ p) (hd : o < 5 ∨ 10 < o ∨ o = 9) (ho2 : o ≤ 21) (hi3 : i < 3 ∨ i + 1 = p) (K : post (yd, yg, yN, yi, yo, yV, yF, yC, (nI s), yft, ybt, res, yer, ypl, ypr, rn, hs, gv, gt, op, a, b, pa, fi, nx, yp, wn, wu, gn, ge, wv, yl, (upd ya (112 * s + w) (nI (i + 1))), ye, (vp_updL yk (3 * (112 * s + w) + i) v), yt, yc, yst, yf, yr, ou)) : wpY_deliver post (yd, yg, yN, yi, yo, yV, yF, yC, (nI s), yft, ybt, res, yer, ypl, ypr, rn, hs, gv, gt, op, a, b, pa, fi, nx, yp, wn, wu, gn, ge, wv, yl, ya, ye, yk, yt, yc, yst, yf, yr, ou) v := by
  have e := nc_ (n := s) (by omega)
  have ei := nc_ (n := 112 * s + w) (by omega)
  have e2 := nc_ (n := n) (by omega)
  have v7 := vi_ (n := s) (N := 7) h7 (by omega)
  have vn := vi_ (n := n) (N := 96) hn (by omega)
  have v1 := vi_ (n := 112 * s + w) (N := 784) (by omega) (by omega)
  refine ⟨v7, br_f ?_ ⟨v7, nm_r (e' := nI (112 * s + w)) (by rw [e, ht, ix_y]) ⟨v1, nm_r (e' := nI n) (by rw [ei, hl]) ⟨v1, nm_r (e' := nI i) (by rw [ei, ha]) ⟨vn, br_f ?_ ⟨vn, nm_r (e' := nI o) (by rw [e2, ho]) ?_⟩⟩⟩⟩⟩⟩
  · rw [e, ht]; exact nI_ne0 (by omega) (by omega)
  · rw [e2, hp, nI_1]; intro h; have := (nI_eq (by omega) (by omega)).mp h; omega
  · have e5 := nc_ (n := 3 * (112 * s + w) + i) (by omega)
    have k2 : wY_deliver_324 post v (nI (112 * s + w)) (nI n) (nI i) 0 yd yg yN yi yo yV yF yC (nI s) yft ybt res yer ypl ypr rn hs gv gt op a b pa fi nx yp wn wu gn ge wv yl ya ye yk yt yc yst yf yr ou := by
      refine br_t rfl ⟨?_, nm_r (e' := vp_updL yk (3 * (112 * s + w) + i) v) (by rw [ix_3, nI_add, e5]) ⟨v1, v1, nm_r (e' := upd ya (112 * s + w) (nI (i + 1))) (by rw [ei, ha, nI_1]) K⟩⟩
      rw [ix_3, nI_add]; exact vi_ (by omega) (by omega)
    rcases hd with h5 | h5 | h5
    · exact br_t (nI_lt (b := 5) h5 (by omega)) k2
    · exact br_f (nI_nlt (b := 5) (by omega) (by omega)) (br_t (nI_lt (a := 10) h5 (by omega)) k2)
    · subst h5
      exact br_f (by decide) (br_f (by decide) (br_f (by decide) (br_f (by decide) (br_f (by decide) (br_f (by decide) (br_t rfl k2))))))
theorem y_Dl {s w n i p o : Nat} {v : Int64} (h7 : s < 7) (ht : yt s = nI (w + 1)) (hw : w < 112) (hl : yl (112 * s + w) = nI n) (hn : n < 96) (ha : ya (112 * s + w) = nI i) (hp : yp n = nI p) (hi : i < 100) (hp9 : p < 100) (ho : op n = nI o) (hz : i + 1 = p) (hd : o < 5 ∨ 10 < o ∨ o = 9) (ho2 : o ≤ 21) (hi3 : i < 3 ∨ i + 1 = p) (K : wpY_apply post (yd, yg, yN, yi, yo, yV, yF, yC, (nI s), yft, ybt, res, yer, ypl, ypr, rn, hs, gv, gt, op, a, b, pa, fi, nx, yp, wn, wu, gn, ge, wv, yl, ya, ye, yk, yt, yc, yst, yf, yr, ou) (nI (112 * s + w)) (nI n) v) : wpY_deliver post (yd, yg, yN, yi, yo, yV, yF, yC, (nI s), yft, ybt, res, yer, ypl, ypr, rn, hs, gv, gt, op, a, b, pa, fi, nx, yp, wn, wu, gn, ge, wv, yl, ya, ye, yk, yt, yc, yst, yf, yr, ou) v := by
  have e := nc_ (n := s) (by omega)
  have ei := nc_ (n := 112 * s + w) (by omega)
  have e2 := nc_ (n := n) (by omega)
  have v7 := vi_ (n := s) (N := 7) h7 (by omega)
  have vn := vi_ (n := n) (N := 96) hn (by omega)
  have v1 := vi_ (n := 112 * s + w) (N := 784) (by omega) (by omega)
  refine ⟨v7, br_f ?_ ⟨v7, nm_r (e' := nI (112 * s + w)) (by rw [e, ht, ix_y]) ⟨v1, nm_r (e' := nI n) (by rw [ei, hl]) ⟨v1, nm_r (e' := nI i) (by rw [ei, ha]) ⟨vn, br_t ?_ ⟨vn, nm_r (e' := nI o) (by rw [e2, ho]) ?_⟩⟩⟩⟩⟩⟩
  · rw [e, ht]; exact nI_ne0 (by omega) (by omega)
  · rw [e2, hp, nI_1, hz]
  · have k2 : wY_deliver_324 post v (nI (112 * s + w)) (nI n) (nI i) 1 yd yg yN yi yo yV yF yC (nI s) yft ybt res yer ypl ypr rn hs gv gt op a b pa fi nx yp wn wu gn ge wv yl ya ye yk yt yc yst yf yr ou := br_f (by decide) K
    rcases hd with h5 | h5 | h5
    · exact br_t (nI_lt (b := 5) h5 (by omega)) k2
    · exact br_f (nI_nlt (b := 5) (by omega) (by omega)) (br_t (nI_lt (a := 10) h5 (by omega)) k2)
    · subst h5
      exact br_f (by decide) (br_f (by decide) (br_f (by decide) (br_f (by decide) (br_f (by decide) (br_f (by decide) (br_t rfl k2))))))
theorem y_5a {s w n i p o : Nat} {v : Int64} (h7 : s < 7) (ht : yt s = nI (w + 1)) (hw : w < 112) (hl : yl (112 * s + w) = nI n) (hn : n < 96) (ha : ya (112 * s + w) = nI i) (hp : yp n = nI p) (hi : i < 100) (hp9 : p < 100) (ho : op n = nI o) (hz : i + 1 ≠ p) (hd : o = 5) (h0 : i = 0) (hf : ∀ q_ : Int32 → Prop, q_ 0 → wpY_isFalse q_ (yd, yg, yN, yi, yo, yV, yF, yC, (nI s), yft, ybt, res, yer, ypl, ypr, rn, hs, gv, gt, op, a, b, pa, fi, nx, yp, wn, wu, gn, ge, wv, yl, ya, ye, yk, yt, yc, yst, yf, yr, ou) v) (K : post (yd, yg, yN, yi, yo, yV, yF, yC, (nI s), yft, ybt, res, yer, ypl, ypr, rn, hs, gv, gt, op, a, b, pa, fi, nx, yp, wn, wu, gn, ge, wv, yl, (upd ya (112 * s + w) 1), ye, yk, yt, yc, yst, yf, yr, ou)) : wpY_deliver post (yd, yg, yN, yi, yo, yV, yF, yC, (nI s), yft, ybt, res, yer, ypl, ypr, rn, hs, gv, gt, op, a, b, pa, fi, nx, yp, wn, wu, gn, ge, wv, yl, ya, ye, yk, yt, yc, yst, yf, yr, ou) v := by
  have e := nc_ (n := s) (by omega)
  have ei := nc_ (n := 112 * s + w) (by omega)
  have e2 := nc_ (n := n) (by omega)
  have v7 := vi_ (n := s) (N := 7) h7 (by omega)
  have vn := vi_ (n := n) (N := 96) hn (by omega)
  have v1 := vi_ (n := 112 * s + w) (N := 784) (by omega) (by omega)
  refine ⟨v7, br_f ?_ ⟨v7, nm_r (e' := nI (112 * s + w)) (by rw [e, ht, ix_y]) ⟨v1, nm_r (e' := nI n) (by rw [ei, hl]) ⟨v1, nm_r (e' := nI i) (by rw [ei, ha]) ⟨vn, br_f ?_ ⟨vn, nm_r (e' := nI o) (by rw [e2, ho]) ?_⟩⟩⟩⟩⟩⟩
  · rw [e, ht]; exact nI_ne0 (by omega) (by omega)
  · rw [e2, hp, nI_1]; intro h; have := (nI_eq (by omega) (by omega)).mp h; omega
  · subst hd
    exact (br_f (by decide) (br_f (by decide) (br_t rfl (br_t (by subst h0; decide) (hf _ (br_t rfl ⟨v1, nm_r (e' := upd ya (112 * s + w) 1) (by rw [ei]) K⟩))))))
theorem y_5b {s w n i p o : Nat} {v : Int64} (h7 : s < 7) (ht : yt s = nI (w + 1)) (hw : w < 112) (hl : yl (112 * s + w) = nI n) (hn : n < 96) (ha : ya (112 * s + w) = nI i) (hp : yp n = nI p) (hi : i < 100) (hp9 : p < 100) (ho : op n = nI o) (hz : i + 1 ≠ p) (hd : o = 5) (h0 : i = 0) (hf : ∀ q_ : Int32 → Prop, q_ 1 → wpY_isFalse q_ (yd, yg, yN, yi, yo, yV, yF, yC, (nI s), yft, ybt, res, yer, ypl, ypr, rn, hs, gv, gt, op, a, b, pa, fi, nx, yp, wn, wu, gn, ge, wv, yl, ya, ye, yk, yt, yc, yst, yf, yr, ou) v) (K : post (yd, yg, yN, yi, yo, yV, yF, yC, (nI s), yft, ybt, res, yer, ypl, ypr, rn, hs, gv, gt, op, a, b, pa, fi, nx, yp, wn, wu, gn, ge, wv, yl, (upd ya (112 * s + w) 2), ye, yk, yt, yc, yst, yf, yr, ou)) : wpY_deliver post (yd, yg, yN, yi, yo, yV, yF, yC, (nI s), yft, ybt, res, yer, ypl, ypr, rn, hs, gv, gt, op, a, b, pa, fi, nx, yp, wn, wu, gn, ge, wv, yl, ya, ye, yk, yt, yc, yst, yf, yr, ou) v := by
  have e := nc_ (n := s) (by omega)
  have ei := nc_ (n := 112 * s + w) (by omega)
  have e2 := nc_ (n := n) (by omega)
  have v7 := vi_ (n := s) (N := 7) h7 (by omega)
  have vn := vi_ (n := n) (N := 96) hn (by omega)
  have v1 := vi_ (n := 112 * s + w) (N := 784) (by omega) (by omega)
  refine ⟨v7, br_f ?_ ⟨v7, nm_r (e' := nI (112 * s + w)) (by rw [e, ht, ix_y]) ⟨v1, nm_r (e' := nI n) (by rw [ei, hl]) ⟨v1, nm_r (e' := nI i) (by rw [ei, ha]) ⟨vn, br_f ?_ ⟨vn, nm_r (e' := nI o) (by rw [e2, ho]) ?_⟩⟩⟩⟩⟩⟩
  · rw [e, ht]; exact nI_ne0 (by omega) (by omega)
  · rw [e2, hp, nI_1]; intro h; have := (nI_eq (by omega) (by omega)).mp h; omega
  · subst hd
    exact (br_f (by decide) (br_f (by decide) (br_t rfl (br_t (by subst h0; decide) (hf _ (br_f (by decide) ⟨v1, nm_r (e' := upd ya (112 * s + w) 2) (by rw [ei]) K⟩))))))
theorem y_5c0 {s w n i p o : Nat} {v : Int64} (h7 : s < 7) (ht : yt s = nI (w + 1)) (hw : w < 112) (hl : yl (112 * s + w) = nI n) (hn : n < 96) (ha : ya (112 * s + w) = nI i) (hp : yp n = nI p) (hi : i < 100) (hp9 : p < 100) (ho : op n = nI o) (hz : i + 1 ≠ p) (hd : o = 5) (h0 : 0 < i) (K : wpY_finish post (yd, yg, yN, yi, yo, yV, yF, yC, (nI s), yft, ybt, res, yer, ypl, ypr, rn, hs, gv, gt, op, a, b, pa, fi, nx, yp, wn, wu, gn, ge, wv, yl, ya, ye, yk, yt, yc, yst, yf, yr, ou) v) : wpY_deliver post (yd, yg, yN, yi, yo, yV, yF, yC, (nI s), yft, ybt, res, yer, ypl, ypr, rn, hs, gv, gt, op, a, b, pa, fi, nx, yp, wn, wu, gn, ge, wv, yl, ya, ye, yk, yt, yc, yst, yf, yr, ou) v := by
  have e := nc_ (n := s) (by omega)
  have ei := nc_ (n := 112 * s + w) (by omega)
  have e2 := nc_ (n := n) (by omega)
  have v7 := vi_ (n := s) (N := 7) h7 (by omega)
  have vn := vi_ (n := n) (N := 96) hn (by omega)
  have v1 := vi_ (n := 112 * s + w) (N := 784) (by omega) (by omega)
  refine ⟨v7, br_f ?_ ⟨v7, nm_r (e' := nI (112 * s + w)) (by rw [e, ht, ix_y]) ⟨v1, nm_r (e' := nI n) (by rw [ei, hl]) ⟨v1, nm_r (e' := nI i) (by rw [ei, ha]) ⟨vn, br_f ?_ ⟨vn, nm_r (e' := nI o) (by rw [e2, ho]) ?_⟩⟩⟩⟩⟩⟩
  · rw [e, ht]; exact nI_ne0 (by omega) (by omega)
  · rw [e2, hp, nI_1]; intro h; have := (nI_eq (by omega) (by omega)).mp h; omega
  · subst hd
    exact (br_f (by decide) (br_f (by decide) (br_t rfl (br_f (nI_nle h0 (by omega)) K))))
theorem y_5c1 {s w n i p o : Nat} {v : Int64} (h7 : s < 7) (ht : yt s = nI (w + 1)) (hw : w < 112) (hl : yl (112 * s + w) = nI n) (hn : n < 96) (ha : ya (112 * s + w) = nI i) (hp : yp n = nI p) (hi : i < 100) (hp9 : p < 100) (ho : op n = nI o) (hz : i + 1 = p) (hd : o = 5) (h0 : 0 < i) (K : wpY_finish post (yd, yg, yN, yi, yo, yV, yF, yC, (nI s), yft, ybt, res, yer, ypl, ypr, rn, hs, gv, gt, op, a, b, pa, fi, nx, yp, wn, wu, gn, ge, wv, yl, ya, ye, yk, yt, yc, yst, yf, yr, ou) v) : wpY_deliver post (yd, yg, yN, yi, yo, yV, yF, yC, (nI s), yft, ybt, res, yer, ypl, ypr, rn, hs, gv, gt, op, a, b, pa, fi, nx, yp, wn, wu, gn, ge, wv, yl, ya, ye, yk, yt, yc, yst, yf, yr, ou) v := by
  have e := nc_ (n := s) (by omega)
  have ei := nc_ (n := 112 * s + w) (by omega)
  have e2 := nc_ (n := n) (by omega)
  have v7 := vi_ (n := s) (N := 7) h7 (by omega)
  have vn := vi_ (n := n) (N := 96) hn (by omega)
  have v1 := vi_ (n := 112 * s + w) (N := 784) (by omega) (by omega)
  refine ⟨v7, br_f ?_ ⟨v7, nm_r (e' := nI (112 * s + w)) (by rw [e, ht, ix_y]) ⟨v1, nm_r (e' := nI n) (by rw [ei, hl]) ⟨v1, nm_r (e' := nI i) (by rw [ei, ha]) ⟨vn, br_t ?_ ⟨vn, nm_r (e' := nI o) (by rw [e2, ho]) ?_⟩⟩⟩⟩⟩⟩
  · rw [e, ht]; exact nI_ne0 (by omega) (by omega)
  · rw [e2, hp, nI_1, hz]
  · subst hd
    exact (br_f (by decide) (br_f (by decide) (br_t rfl (br_f (nI_nle h0 (by omega)) K))))
theorem y_6n {s w n i p o : Nat} {v : Int64} (h7 : s < 7) (ht : yt s = nI (w + 1)) (hw : w < 112) (hl : yl (112 * s + w) = nI n) (hn : n < 96) (ha : ya (112 * s + w) = nI i) (hp : yp n = nI p) (hi : i < 100) (hp9 : p < 100) (ho : op n = nI o) (hz : i + 1 ≠ p) (hd : o = 6) (K : post (yd, yg, yN, yi, yo, yV, yF, yC, (nI s), yft, ybt, res, yer, ypl, ypr, rn, hs, gv, gt, op, a, b, pa, fi, nx, yp, wn, wu, gn, ge, wv, yl, (upd ya (112 * s + w) (nI (i + 1))), ye, yk, yt, yc, yst, yf, yr, ou)) : wpY_deliver post (yd, yg, yN, yi, yo, yV, yF, yC, (nI s), yft, ybt, res, yer, ypl, ypr, rn, hs, gv, gt, op, a, b, pa, fi, nx, yp, wn, wu, gn, ge, wv, yl, ya, ye, yk, yt, yc, yst, yf, yr, ou) v := by
  have e := nc_ (n := s) (by omega)
  have ei := nc_ (n := 112 * s + w) (by omega)
  have e2 := nc_ (n := n) (by omega)
  have v7 := vi_ (n := s) (N := 7) h7 (by omega)
  have vn := vi_ (n := n) (N := 96) hn (by omega)
  have v1 := vi_ (n := 112 * s + w) (N := 784) (by omega) (by omega)
  refine ⟨v7, br_f ?_ ⟨v7, nm_r (e' := nI (112 * s + w)) (by rw [e, ht, ix_y]) ⟨v1, nm_r (e' := nI n) (by rw [ei, hl]) ⟨v1, nm_r (e' := nI i) (by rw [ei, ha]) ⟨vn, br_f ?_ ⟨vn, nm_r (e' := nI o) (by rw [e2, ho]) ?_⟩⟩⟩⟩⟩⟩
  · rw [e, ht]; exact nI_ne0 (by omega) (by omega)
  · rw [e2, hp, nI_1]; intro h; have := (nI_eq (by omega) (by omega)).mp h; omega
  · subst hd
    exact (br_f (by decide) (br_f (by decide) (br_f (by decide) (br_t rfl ⟨v1, v1, nm_r (e' := upd ya (112 * s + w) (nI (i + 1))) (by rw [ei, ha, nI_1]) (br_t rfl K)⟩))))
theorem y_6l {s w n i p o : Nat} {v : Int64} (h7 : s < 7) (ht : yt s = nI (w + 1)) (hw : w < 112) (hl : yl (112 * s + w) = nI n) (hn : n < 96) (ha : ya (112 * s + w) = nI i) (hp : yp n = nI p) (hi : i < 100) (hp9 : p < 100) (ho : op n = nI o) (hz : i + 1 = p) (hd : o = 6) (K : wpY_finish post (yd, yg, yN, yi, yo, yV, yF, yC, (nI s), yft, ybt, res, yer, ypl, ypr, rn, hs, gv, gt, op, a, b, pa, fi, nx, yp, wn, wu, gn, ge, wv, yl, (upd ya (112 * s + w) (nI (i + 1))), ye, yk, yt, yc, yst, yf, yr, ou) v) : wpY_deliver post (yd, yg, yN, yi, yo, yV, yF, yC, (nI s), yft, ybt, res, yer, ypl, ypr, rn, hs, gv, gt, op, a, b, pa, fi, nx, yp, wn, wu, gn, ge, wv, yl, ya, ye, yk, yt, yc, yst, yf, yr, ou) v := by
  have e := nc_ (n := s) (by omega)
  have ei := nc_ (n := 112 * s + w) (by omega)
  have e2 := nc_ (n := n) (by omega)
  have v7 := vi_ (n := s) (N := 7) h7 (by omega)
  have vn := vi_ (n := n) (N := 96) hn (by omega)
  have v1 := vi_ (n := 112 * s + w) (N := 784) (by omega) (by omega)
  refine ⟨v7, br_f ?_ ⟨v7, nm_r (e' := nI (112 * s + w)) (by rw [e, ht, ix_y]) ⟨v1, nm_r (e' := nI n) (by rw [ei, hl]) ⟨v1, nm_r (e' := nI i) (by rw [ei, ha]) ⟨vn, br_t ?_ ⟨vn, nm_r (e' := nI o) (by rw [e2, ho]) ?_⟩⟩⟩⟩⟩⟩
  · rw [e, ht]; exact nI_ne0 (by omega) (by omega)
  · rw [e2, hp, nI_1, hz]
  · subst hd
    exact (br_f (by decide) (br_f (by decide) (br_f (by decide) (br_t rfl ⟨v1, v1, nm_r (e' := upd ya (112 * s + w) (nI (i + 1))) (by rw [ei, ha, nI_1]) (br_f (by decide) K)⟩))))
theorem y_10n {s w n i p o : Nat} {v : Int64} (h7 : s < 7) (ht : yt s = nI (w + 1)) (hw : w < 112) (hl : yl (112 * s + w) = nI n) (hn : n < 96) (ha : ya (112 * s + w) = nI i) (hp : yp n = nI p) (hi : i < 100) (hp9 : p < 100) (ho : op n = nI o) (hz : i + 1 ≠ p) (hd : o = 10) (K : post (yd, yg, yN, yi, yo, yV, yF, yC, (nI s), yft, ybt, res, yer, ypl, ypr, rn, hs, gv, gt, op, a, b, pa, fi, nx, yp, wn, wu, gn, ge, wv, yl, (upd ya (112 * s + w) (nI (i + 1))), ye, yk, yt, yc, yst, yf, yr, ou)) : wpY_deliver post (yd, yg, yN, yi, yo, yV, yF, yC, (nI s), yft, ybt, res, yer, ypl, ypr, rn, hs, gv, gt, op, a, b, pa, fi, nx, yp, wn, wu, gn, ge, wv, yl, ya, ye, yk, yt, yc, yst, yf, yr, ou) v := by
  have e := nc_ (n := s) (by omega)
  have ei := nc_ (n := 112 * s + w) (by omega)
  have e2 := nc_ (n := n) (by omega)
  have v7 := vi_ (n := s) (N := 7) h7 (by omega)
  have vn := vi_ (n := n) (N := 96) hn (by omega)
  have v1 := vi_ (n := 112 * s + w) (N := 784) (by omega) (by omega)
  refine ⟨v7, br_f ?_ ⟨v7, nm_r (e' := nI (112 * s + w)) (by rw [e, ht, ix_y]) ⟨v1, nm_r (e' := nI n) (by rw [ei, hl]) ⟨v1, nm_r (e' := nI i) (by rw [ei, ha]) ⟨vn, br_f ?_ ⟨vn, nm_r (e' := nI o) (by rw [e2, ho]) ?_⟩⟩⟩⟩⟩⟩
  · rw [e, ht]; exact nI_ne0 (by omega) (by omega)
  · rw [e2, hp, nI_1]; intro h; have := (nI_eq (by omega) (by omega)).mp h; omega
  · subst hd
    exact (br_f (by decide) (br_f (by decide) (br_f (by decide) (br_f (by decide) (br_f (by decide) (br_f (by decide) (br_f (by decide) (br_t rfl ⟨v1, v1, nm_r (e' := upd ya (112 * s + w) (nI (i + 1))) (by rw [ei, ha, nI_1]) (br_t rfl K)⟩))))))))
theorem y_10l {s w n i p o : Nat} {v : Int64} (h7 : s < 7) (ht : yt s = nI (w + 1)) (hw : w < 112) (hl : yl (112 * s + w) = nI n) (hn : n < 96) (ha : ya (112 * s + w) = nI i) (hp : yp n = nI p) (hi : i < 100) (hp9 : p < 100) (ho : op n = nI o) (hz : i + 1 = p) (hd : o = 10) (K : wpY_finish post (yd, yg, yN, yi, yo, yV, yF, yC, (nI s), yft, ybt, res, yer, ypl, ypr, rn, hs, gv, gt, op, a, b, pa, fi, nx, yp, wn, wu, gn, ge, wv, yl, (upd ya (112 * s + w) (nI (i + 1))), ye, yk, yt, yc, yst, yf, yr, ou) v) : wpY_deliver post (yd, yg, yN, yi, yo, yV, yF, yC, (nI s), yft, ybt, res, yer, ypl, ypr, rn, hs, gv, gt, op, a, b, pa, fi, nx, yp, wn, wu, gn, ge, wv, yl, ya, ye, yk, yt, yc, yst, yf, yr, ou) v := by
  have e := nc_ (n := s) (by omega)
  have ei := nc_ (n := 112 * s + w) (by omega)
  have e2 := nc_ (n := n) (by omega)
  have v7 := vi_ (n := s) (N := 7) h7 (by omega)
  have vn := vi_ (n := n) (N := 96) hn (by omega)
  have v1 := vi_ (n := 112 * s + w) (N := 784) (by omega) (by omega)
  refine ⟨v7, br_f ?_ ⟨v7, nm_r (e' := nI (112 * s + w)) (by rw [e, ht, ix_y]) ⟨v1, nm_r (e' := nI n) (by rw [ei, hl]) ⟨v1, nm_r (e' := nI i) (by rw [ei, ha]) ⟨vn, br_t ?_ ⟨vn, nm_r (e' := nI o) (by rw [e2, ho]) ?_⟩⟩⟩⟩⟩⟩
  · rw [e, ht]; exact nI_ne0 (by omega) (by omega)
  · rw [e2, hp, nI_1, hz]
  · subst hd
    exact (br_f (by decide) (br_f (by decide) (br_f (by decide) (br_f (by decide) (br_f (by decide) (br_f (by decide) (br_f (by decide) (br_t rfl ⟨v1, v1, nm_r (e' := upd ya (112 * s + w) (nI (i + 1))) (by rw [ei, ha, nI_1]) (br_f (by decide) K)⟩))))))))
theorem y_7a0 {s w n i p o : Nat} {v : Int64} (h7 : s < 7) (ht : yt s = nI (w + 1)) (hw : w < 112) (hl : yl (112 * s + w) = nI n) (hn : n < 96) (ha : ya (112 * s + w) = nI i) (hp : yp n = nI p) (hi : i < 100) (hp9 : p < 100) (ho : op n = nI o) (hz : i + 1 ≠ p) (hd : o = 7) (h0 : i = 0) (hf : ∀ q_ : Int32 → Prop, q_ 1 → wpY_isFalse q_ (yd, yg, yN, yi, yo, yV, yF, yC, (nI s), yft, ybt, res, yer, ypl, ypr, rn, hs, gv, gt, op, a, b, pa, fi, nx, yp, wn, wu, gn, ge, wv, yl, ya, ye, yk, yt, yc, yst, yf, yr, ou) v) (K : wpY_finish post (yd, yg, yN, yi, yo, yV, yF, yC, (nI s), yft, ybt, res, yer, ypl, ypr, rn, hs, gv, gt, op, a, b, pa, fi, nx, yp, wn, wu, gn, ge, wv, yl, ya, ye, yk, yt, yc, yst, yf, yr, ou) 4294967296) : wpY_deliver post (yd, yg, yN, yi, yo, yV, yF, yC, (nI s), yft, ybt, res, yer, ypl, ypr, rn, hs, gv, gt, op, a, b, pa, fi, nx, yp, wn, wu, gn, ge, wv, yl, ya, ye, yk, yt, yc, yst, yf, yr, ou) v := by
  have e := nc_ (n := s) (by omega)
  have ei := nc_ (n := 112 * s + w) (by omega)
  have e2 := nc_ (n := n) (by omega)
  have v7 := vi_ (n := s) (N := 7) h7 (by omega)
  have vn := vi_ (n := n) (N := 96) hn (by omega)
  have v1 := vi_ (n := 112 * s + w) (N := 784) (by omega) (by omega)
  refine ⟨v7, br_f ?_ ⟨v7, nm_r (e' := nI (112 * s + w)) (by rw [e, ht, ix_y]) ⟨v1, nm_r (e' := nI n) (by rw [ei, hl]) ⟨v1, nm_r (e' := nI i) (by rw [ei, ha]) ⟨vn, br_f ?_ ⟨vn, nm_r (e' := nI o) (by rw [e2, ho]) ?_⟩⟩⟩⟩⟩⟩
  · rw [e, ht]; exact nI_ne0 (by omega) (by omega)
  · rw [e2, hp, nI_1]; intro h; have := (nI_eq (by omega) (by omega)).mp h; omega
  · subst hd
    exact (br_f (by decide) (br_f (by decide) (br_f (by decide) (br_f (by decide) (br_t rfl (br_t (by subst h0; rfl) (hf _ (br_f (by decide) K))))))))
theorem y_7a1 {s w n i p o : Nat} {v : Int64} (h7 : s < 7) (ht : yt s = nI (w + 1)) (hw : w < 112) (hl : yl (112 * s + w) = nI n) (hn : n < 96) (ha : ya (112 * s + w) = nI i) (hp : yp n = nI p) (hi : i < 100) (hp9 : p < 100) (ho : op n = nI o) (hz : i + 1 = p) (hd : o = 7) (h0 : i = 0) (hf : ∀ q_ : Int32 → Prop, q_ 1 → wpY_isFalse q_ (yd, yg, yN, yi, yo, yV, yF, yC, (nI s), yft, ybt, res, yer, ypl, ypr, rn, hs, gv, gt, op, a, b, pa, fi, nx, yp, wn, wu, gn, ge, wv, yl, ya, ye, yk, yt, yc, yst, yf, yr, ou) v) (K : wpY_finish post (yd, yg, yN, yi, yo, yV, yF, yC, (nI s), yft, ybt, res, yer, ypl, ypr, rn, hs, gv, gt, op, a, b, pa, fi, nx, yp, wn, wu, gn, ge, wv, yl, ya, ye, yk, yt, yc, yst, yf, yr, ou) 4294967296) : wpY_deliver post (yd, yg, yN, yi, yo, yV, yF, yC, (nI s), yft, ybt, res, yer, ypl, ypr, rn, hs, gv, gt, op, a, b, pa, fi, nx, yp, wn, wu, gn, ge, wv, yl, ya, ye, yk, yt, yc, yst, yf, yr, ou) v := by
  have e := nc_ (n := s) (by omega)
  have ei := nc_ (n := 112 * s + w) (by omega)
  have e2 := nc_ (n := n) (by omega)
  have v7 := vi_ (n := s) (N := 7) h7 (by omega)
  have vn := vi_ (n := n) (N := 96) hn (by omega)
  have v1 := vi_ (n := 112 * s + w) (N := 784) (by omega) (by omega)
  refine ⟨v7, br_f ?_ ⟨v7, nm_r (e' := nI (112 * s + w)) (by rw [e, ht, ix_y]) ⟨v1, nm_r (e' := nI n) (by rw [ei, hl]) ⟨v1, nm_r (e' := nI i) (by rw [ei, ha]) ⟨vn, br_t ?_ ⟨vn, nm_r (e' := nI o) (by rw [e2, ho]) ?_⟩⟩⟩⟩⟩⟩
  · rw [e, ht]; exact nI_ne0 (by omega) (by omega)
  · rw [e2, hp, nI_1, hz]
  · subst hd
    exact (br_f (by decide) (br_f (by decide) (br_f (by decide) (br_f (by decide) (br_t rfl (br_t (by subst h0; rfl) (hf _ (br_f (by decide) K))))))))
theorem y_7n0 {s w n i p o : Nat} {v : Int64} (h7 : s < 7) (ht : yt s = nI (w + 1)) (hw : w < 112) (hl : yl (112 * s + w) = nI n) (hn : n < 96) (ha : ya (112 * s + w) = nI i) (hp : yp n = nI p) (hi : i < 100) (hp9 : p < 100) (ho : op n = nI o) (hz : i + 1 ≠ p) (hd : o = 7) (h0 : i = 0) (hf : ∀ q_ : Int32 → Prop, q_ 0 → wpY_isFalse q_ (yd, yg, yN, yi, yo, yV, yF, yC, (nI s), yft, ybt, res, yer, ypl, ypr, rn, hs, gv, gt, op, a, b, pa, fi, nx, yp, wn, wu, gn, ge, wv, yl, ya, ye, yk, yt, yc, yst, yf, yr, ou) v) (K : post (yd, yg, yN, yi, yo, yV, yF, yC, (nI s), yft, ybt, res, yer, ypl, ypr, rn, hs, gv, gt, op, a, b, pa, fi, nx, yp, wn, wu, gn, ge, wv, yl, (upd ya (112 * s + w) (nI (i + 1))), ye, yk, yt, yc, yst, yf, yr, ou)) : wpY_deliver post (yd, yg, yN, yi, yo, yV, yF, yC, (nI s), yft, ybt, res, yer, ypl, ypr, rn, hs, gv, gt, op, a, b, pa, fi, nx, yp, wn, wu, gn, ge, wv, yl, ya, ye, yk, yt, yc, yst, yf, yr, ou) v := by
  have e := nc_ (n := s) (by omega)
  have ei := nc_ (n := 112 * s + w) (by omega)
  have e2 := nc_ (n := n) (by omega)
  have v7 := vi_ (n := s) (N := 7) h7 (by omega)
  have vn := vi_ (n := n) (N := 96) hn (by omega)
  have v1 := vi_ (n := 112 * s + w) (N := 784) (by omega) (by omega)
  refine ⟨v7, br_f ?_ ⟨v7, nm_r (e' := nI (112 * s + w)) (by rw [e, ht, ix_y]) ⟨v1, nm_r (e' := nI n) (by rw [ei, hl]) ⟨v1, nm_r (e' := nI i) (by rw [ei, ha]) ⟨vn, br_f ?_ ⟨vn, nm_r (e' := nI o) (by rw [e2, ho]) ?_⟩⟩⟩⟩⟩⟩
  · rw [e, ht]; exact nI_ne0 (by omega) (by omega)
  · rw [e2, hp, nI_1]; intro h; have := (nI_eq (by omega) (by omega)).mp h; omega
  · subst hd
    exact (br_f (by decide) (br_f (by decide) (br_f (by decide) (br_f (by decide) (br_t rfl (br_t (by subst h0; rfl) (hf _ (br_t rfl (br_t rfl ⟨v1, v1, nm_r (e' := upd ya (112 * s + w) (nI (i + 1))) (by rw [ei, ha, nI_1]) K⟩)))))))))
theorem y_7n1 {s w n i p o : Nat} {v : Int64} (h7 : s < 7) (ht : yt s = nI (w + 1)) (hw : w < 112) (hl : yl (112 * s + w) = nI n) (hn : n < 96) (ha : ya (112 * s + w) = nI i) (hp : yp n = nI p) (hi : i < 100) (hp9 : p < 100) (ho : op n = nI o) (hz : i + 1 ≠ p) (hd : o = 7) (h0 : 0 < i) (K : post (yd, yg, yN, yi, yo, yV, yF, yC, (nI s), yft, ybt, res, yer, ypl, ypr, rn, hs, gv, gt, op, a, b, pa, fi, nx, yp, wn, wu, gn, ge, wv, yl, (upd ya (112 * s + w) (nI (i + 1))), ye, yk, yt, yc, yst, yf, yr, ou)) : wpY_deliver post (yd, yg, yN, yi, yo, yV, yF, yC, (nI s), yft, ybt, res, yer, ypl, ypr, rn, hs, gv, gt, op, a, b, pa, fi, nx, yp, wn, wu, gn, ge, wv, yl, ya, ye, yk, yt, yc, yst, yf, yr, ou) v := by
  have e := nc_ (n := s) (by omega)
  have ei := nc_ (n := 112 * s + w) (by omega)
  have e2 := nc_ (n := n) (by omega)
  have v7 := vi_ (n := s) (N := 7) h7 (by omega)
  have vn := vi_ (n := n) (N := 96) hn (by omega)
  have v1 := vi_ (n := 112 * s + w) (N := 784) (by omega) (by omega)
  refine ⟨v7, br_f ?_ ⟨v7, nm_r (e' := nI (112 * s + w)) (by rw [e, ht, ix_y]) ⟨v1, nm_r (e' := nI n) (by rw [ei, hl]) ⟨v1, nm_r (e' := nI i) (by rw [ei, ha]) ⟨vn, br_f ?_ ⟨vn, nm_r (e' := nI o) (by rw [e2, ho]) ?_⟩⟩⟩⟩⟩⟩
  · rw [e, ht]; exact nI_ne0 (by omega) (by omega)
  · rw [e2, hp, nI_1]; intro h; have := (nI_eq (by omega) (by omega)).mp h; omega
  · subst hd
    exact (br_f (by decide) (br_f (by decide) (br_f (by decide) (br_f (by decide) (br_t rfl (br_f (nI_ne0 h0 (by omega)) (br_t rfl ⟨v1, v1, nm_r (e' := upd ya (112 * s + w) (nI (i + 1))) (by rw [ei, ha, nI_1]) K⟩)))))))
theorem y_7l01 {q g : Nat} (hq : q < g) (hg : g < 1000) {s w n i p o : Nat} {v : Int64} (h7 : s < 7) (ht : yt s = nI (w + 1)) (hw : w < 112) (hl : yl (112 * s + w) = nI n) (hn : n < 96) (ha : ya (112 * s + w) = nI i) (hp : yp n = nI p) (hi : i < 100) (hp9 : p < 100) (ho : op n = nI o) (hz : i + 1 = p) (hd : o = 7) (h0 : i = 0) (hf : ∀ q_ : Int32 → Prop, q_ 0 → wpY_isFalse q_ (yd, (nI g), yN, yi, yo, yV, yF, yC, (nI s), yft, (nI q), res, yer, ypl, ypr, rn, hs, gv, gt, op, a, b, pa, fi, nx, yp, wn, wu, gn, ge, wv, yl, ya, ye, yk, yt, yc, yst, yf, yr, ou) v) (K : post (yd, (nI g), yN, yi, yo, yV, yF, yC, (nI s), yft, (nI (q + 1)), res, yer, ypl, ypr, rn, hs, gv, gt, op, a, b, pa, fi, nx, yp, wn, wu, gn, ge, wv, yl, (upd ya (112 * s + w) 0), ye, yk, yt, yc, yst, yf, yr, ou)) : wpY_deliver post (yd, (nI g), yN, yi, yo, yV, yF, yC, (nI s), yft, (nI q), res, yer, ypl, ypr, rn, hs, gv, gt, op, a, b, pa, fi, nx, yp, wn, wu, gn, ge, wv, yl, ya, ye, yk, yt, yc, yst, yf, yr, ou) v := by
  have e := nc_ (n := s) (by omega)
  have ei := nc_ (n := 112 * s + w) (by omega)
  have e2 := nc_ (n := n) (by omega)
  have v7 := vi_ (n := s) (N := 7) h7 (by omega)
  have vn := vi_ (n := n) (N := 96) hn (by omega)
  have v1 := vi_ (n := 112 * s + w) (N := 784) (by omega) (by omega)
  refine ⟨v7, br_f ?_ ⟨v7, nm_r (e' := nI (112 * s + w)) (by rw [e, ht, ix_y]) ⟨v1, nm_r (e' := nI n) (by rw [ei, hl]) ⟨v1, nm_r (e' := nI i) (by rw [ei, ha]) ⟨vn, br_t ?_ ⟨vn, nm_r (e' := nI o) (by rw [e2, ho]) ?_⟩⟩⟩⟩⟩⟩
  · rw [e, ht]; exact nI_ne0 (by omega) (by omega)
  · rw [e2, hp, nI_1, hz]
  · subst hd
    exact (br_f (by decide) (br_f (by decide) (br_f (by decide) (br_f (by decide) (br_t rfl (br_t (by subst h0; rfl) (hf _ (br_t rfl (br_f (by decide) (y_beat1 hq hg (br_f (by decide) ⟨v1, nm_r (e' := upd ya (112 * s + w) 0) (by rw [ei]) K⟩)))))))))))
theorem y_7l11 {q g : Nat} (hq : q < g) (hg : g < 1000) {s w n i p o : Nat} {v : Int64} (h7 : s < 7) (ht : yt s = nI (w + 1)) (hw : w < 112) (hl : yl (112 * s + w) = nI n) (hn : n < 96) (ha : ya (112 * s + w) = nI i) (hp : yp n = nI p) (hi : i < 100) (hp9 : p < 100) (ho : op n = nI o) (hz : i + 1 = p) (hd : o = 7) (h0 : 0 < i) (K : post (yd, (nI g), yN, yi, yo, yV, yF, yC, (nI s), yft, (nI (q + 1)), res, yer, ypl, ypr, rn, hs, gv, gt, op, a, b, pa, fi, nx, yp, wn, wu, gn, ge, wv, yl, (upd ya (112 * s + w) 0), ye, yk, yt, yc, yst, yf, yr, ou)) : wpY_deliver post (yd, (nI g), yN, yi, yo, yV, yF, yC, (nI s), yft, (nI q), res, yer, ypl, ypr, rn, hs, gv, gt, op, a, b, pa, fi, nx, yp, wn, wu, gn, ge, wv, yl, ya, ye, yk, yt, yc, yst, yf, yr, ou) v := by
  have e := nc_ (n := s) (by omega)
  have ei := nc_ (n := 112 * s + w) (by omega)
  have e2 := nc_ (n := n) (by omega)
  have v7 := vi_ (n := s) (N := 7) h7 (by omega)
  have vn := vi_ (n := n) (N := 96) hn (by omega)
  have v1 := vi_ (n := 112 * s + w) (N := 784) (by omega) (by omega)
  refine ⟨v7, br_f ?_ ⟨v7, nm_r (e' := nI (112 * s + w)) (by rw [e, ht, ix_y]) ⟨v1, nm_r (e' := nI n) (by rw [ei, hl]) ⟨v1, nm_r (e' := nI i) (by rw [ei, ha]) ⟨vn, br_t ?_ ⟨vn, nm_r (e' := nI o) (by rw [e2, ho]) ?_⟩⟩⟩⟩⟩⟩
  · rw [e, ht]; exact nI_ne0 (by omega) (by omega)
  · rw [e2, hp, nI_1, hz]
  · subst hd
    exact (br_f (by decide) (br_f (by decide) (br_f (by decide) (br_f (by decide) (br_t rfl (br_f (nI_ne0 h0 (by omega)) (br_f (by decide) (y_beat1 hq hg (br_f (by decide) ⟨v1, nm_r (e' := upd ya (112 * s + w) 0) (by rw [ei]) K⟩)))))))))
theorem y_7l00 {g : Nat} {s w n i p o : Nat} {v : Int64} (h7 : s < 7) (ht : yt s = nI (w + 1)) (hw : w < 112) (hl : yl (112 * s + w) = nI n) (hn : n < 96) (ha : ya (112 * s + w) = nI i) (hp : yp n = nI p) (hi : i < 100) (hp9 : p < 100) (ho : op n = nI o) (hz : i + 1 = p) (hd : o = 7) (h0 : i = 0) (hf : ∀ q_ : Int32 → Prop, q_ 0 → wpY_isFalse q_ (yd, (nI g), yN, yi, yo, yV, yF, yC, (nI s), yft, (nI g), res, yer, ypl, ypr, rn, hs, gv, gt, op, a, b, pa, fi, nx, yp, wn, wu, gn, ge, wv, yl, ya, ye, yk, yt, yc, yst, yf, yr, ou) v) (K : post (yd, (nI g), yN, yi, yo, yV, yF, yC, (nI s), yft, (nI g), 2, yer, ypl, ypr, 0, hs, 4294967296, gt, op, a, b, pa, fi, nx, yp, wn, wu, gn, ge, wv, yl, ya, ye, yk, yt, yc, yst, yf, yr, ou)) : wpY_deliver post (yd, (nI g), yN, yi, yo, yV, yF, yC, (nI s), yft, (nI g), res, yer, ypl, ypr, rn, hs, gv, gt, op, a, b, pa, fi, nx, yp, wn, wu, gn, ge, wv, yl, ya, ye, yk, yt, yc, yst, yf, yr, ou) v := by
  have e := nc_ (n := s) (by omega)
  have ei := nc_ (n := 112 * s + w) (by omega)
  have e2 := nc_ (n := n) (by omega)
  have v7 := vi_ (n := s) (N := 7) h7 (by omega)
  have vn := vi_ (n := n) (N := 96) hn (by omega)
  have v1 := vi_ (n := 112 * s + w) (N := 784) (by omega) (by omega)
  refine ⟨v7, br_f ?_ ⟨v7, nm_r (e' := nI (112 * s + w)) (by rw [e, ht, ix_y]) ⟨v1, nm_r (e' := nI n) (by rw [ei, hl]) ⟨v1, nm_r (e' := nI i) (by rw [ei, ha]) ⟨vn, br_t ?_ ⟨vn, nm_r (e' := nI o) (by rw [e2, ho]) ?_⟩⟩⟩⟩⟩⟩
  · rw [e, ht]; exact nI_ne0 (by omega) (by omega)
  · rw [e2, hp, nI_1, hz]
  · subst hd
    exact (br_f (by decide) (br_f (by decide) (br_f (by decide) (br_f (by decide) (br_t rfl (br_t (by subst h0; rfl) (hf _ (br_t rfl (br_f (by decide) (y_beat0 (br_t rfl K)))))))))))
theorem y_7l10 {g : Nat} {s w n i p o : Nat} {v : Int64} (h7 : s < 7) (ht : yt s = nI (w + 1)) (hw : w < 112) (hl : yl (112 * s + w) = nI n) (hn : n < 96) (ha : ya (112 * s + w) = nI i) (hp : yp n = nI p) (hi : i < 100) (hp9 : p < 100) (ho : op n = nI o) (hz : i + 1 = p) (hd : o = 7) (h0 : 0 < i) (K : post (yd, (nI g), yN, yi, yo, yV, yF, yC, (nI s), yft, (nI g), 2, yer, ypl, ypr, 0, hs, 4294967296, gt, op, a, b, pa, fi, nx, yp, wn, wu, gn, ge, wv, yl, ya, ye, yk, yt, yc, yst, yf, yr, ou)) : wpY_deliver post (yd, (nI g), yN, yi, yo, yV, yF, yC, (nI s), yft, (nI g), res, yer, ypl, ypr, rn, hs, gv, gt, op, a, b, pa, fi, nx, yp, wn, wu, gn, ge, wv, yl, ya, ye, yk, yt, yc, yst, yf, yr, ou) v := by
  have e := nc_ (n := s) (by omega)
  have ei := nc_ (n := 112 * s + w) (by omega)
  have e2 := nc_ (n := n) (by omega)
  have v7 := vi_ (n := s) (N := 7) h7 (by omega)
  have vn := vi_ (n := n) (N := 96) hn (by omega)
  have v1 := vi_ (n := 112 * s + w) (N := 784) (by omega) (by omega)
  refine ⟨v7, br_f ?_ ⟨v7, nm_r (e' := nI (112 * s + w)) (by rw [e, ht, ix_y]) ⟨v1, nm_r (e' := nI n) (by rw [ei, hl]) ⟨v1, nm_r (e' := nI i) (by rw [ei, ha]) ⟨vn, br_t ?_ ⟨vn, nm_r (e' := nI o) (by rw [e2, ho]) ?_⟩⟩⟩⟩⟩⟩
  · rw [e, ht]; exact nI_ne0 (by omega) (by omega)
  · rw [e2, hp, nI_1, hz]
  · subst hd
    exact (br_f (by decide) (br_f (by decide) (br_f (by decide) (br_f (by decide) (br_t rfl (br_f (nI_ne0 h0 (by omega)) (br_f (by decide) (y_beat0 (br_t rfl K)))))))))
theorem y_8e0  {s w n i p o : Nat} {v : Int64} (h7 : s < 7) (ht : yt s = nI (w + 1)) (hw : w < 112) (hl : yl (112 * s + w) = nI n) (hn : n < 96) (ha : ya (112 * s + w) = nI i) (hp : yp n = nI p) (hi : i < 100) (hp9 : p < 100) (ho : op n = nI o) (hz : i + 1 ≠ p) (hd : o = 8) (h0 : i = 0) (K : wpY_raise post (yd, yg, yN, yi, yo, (nI 120), yF, yC, (nI s), yft, ybt, res, yer, ypl, ypr, rn, hs, gv, gt, op, a, b, pa, fi, nx, yp, wn, wu, gn, ge, wv, yl, ya, ye, yk, yt, yc, yst, yf, yr, ou) 7 (nI n)) : wpY_deliver post (yd, yg, yN, yi, yo, (nI 120), yF, yC, (nI s), yft, ybt, res, yer, ypl, ypr, rn, hs, gv, gt, op, a, b, pa, fi, nx, yp, wn, wu, gn, ge, wv, yl, ya, ye, yk, yt, yc, yst, yf, yr, ou) v := by
  have e := nc_ (n := s) (by omega)
  have ei := nc_ (n := 112 * s + w) (by omega)
  have e2 := nc_ (n := n) (by omega)
  have v7 := vi_ (n := s) (N := 7) h7 (by omega)
  have vn := vi_ (n := n) (N := 96) hn (by omega)
  have v1 := vi_ (n := 112 * s + w) (N := 784) (by omega) (by omega)
  refine ⟨v7, br_f ?_ ⟨v7, nm_r (e' := nI (112 * s + w)) (by rw [e, ht, ix_y]) ⟨v1, nm_r (e' := nI n) (by rw [ei, hl]) ⟨v1, nm_r (e' := nI i) (by rw [ei, ha]) ⟨vn, br_f ?_ ⟨vn, nm_r (e' := nI o) (by rw [e2, ho]) ?_⟩⟩⟩⟩⟩⟩
  · rw [e, ht]; exact nI_ne0 (by omega) (by omega)
  · rw [e2, hp, nI_1]; intro h; have := (nI_eq (by omega) (by omega)).mp h; omega
  · subst hd
    exact (br_f (by decide) (br_f (by decide) (br_f (by decide) (br_f (by decide) (br_f (by decide) (br_t rfl (br_t (by subst h0; rfl) (br_t rfl K))))))))
theorem y_8e1  {s w n i p o : Nat} {v : Int64} (h7 : s < 7) (ht : yt s = nI (w + 1)) (hw : w < 112) (hl : yl (112 * s + w) = nI n) (hn : n < 96) (ha : ya (112 * s + w) = nI i) (hp : yp n = nI p) (hi : i < 100) (hp9 : p < 100) (ho : op n = nI o) (hz : i + 1 = p) (hd : o = 8) (h0 : i = 0) (K : wpY_raise post (yd, yg, yN, yi, yo, (nI 120), yF, yC, (nI s), yft, ybt, res, yer, ypl, ypr, rn, hs, gv, gt, op, a, b, pa, fi, nx, yp, wn, wu, gn, ge, wv, yl, ya, ye, yk, yt, yc, yst, yf, yr, ou) 7 (nI n)) : wpY_deliver post (yd, yg, yN, yi, yo, (nI 120), yF, yC, (nI s), yft, ybt, res, yer, ypl, ypr, rn, hs, gv, gt, op, a, b, pa, fi, nx, yp, wn, wu, gn, ge, wv, yl, ya, ye, yk, yt, yc, yst, yf, yr, ou) v := by
  have e := nc_ (n := s) (by omega)
  have ei := nc_ (n := 112 * s + w) (by omega)
  have e2 := nc_ (n := n) (by omega)
  have v7 := vi_ (n := s) (N := 7) h7 (by omega)
  have vn := vi_ (n := n) (N := 96) hn (by omega)
  have v1 := vi_ (n := 112 * s + w) (N := 784) (by omega) (by omega)
  refine ⟨v7, br_f ?_ ⟨v7, nm_r (e' := nI (112 * s + w)) (by rw [e, ht, ix_y]) ⟨v1, nm_r (e' := nI n) (by rw [ei, hl]) ⟨v1, nm_r (e' := nI i) (by rw [ei, ha]) ⟨vn, br_t ?_ ⟨vn, nm_r (e' := nI o) (by rw [e2, ho]) ?_⟩⟩⟩⟩⟩⟩
  · rw [e, ht]; exact nI_ne0 (by omega) (by omega)
  · rw [e2, hp, nI_1, hz]
  · subst hd
    exact (br_f (by decide) (br_f (by decide) (br_f (by decide) (br_f (by decide) (br_f (by decide) (br_t rfl (br_t (by subst h0; rfl) (br_t rfl K))))))))
theorem y_8a {V : Nat} (hV : V < 120) {s w n i p o : Nat} {v : Int64} (h7 : s < 7) (ht : yt s = nI (w + 1)) (hw : w < 112) (hl : yl (112 * s + w) = nI n) (hn : n < 96) (ha : ya (112 * s + w) = nI i) (hp : yp n = nI p) (hi : i < 100) (hp9 : p < 100) (ho : op n = nI o) (hz : i + 1 ≠ p) (hd : o = 8) (h0 : i = 0) (K : post (yd, yg, yN, yi, yo, (nI (V + 1)), yF, yC, (nI s), yft, ybt, res, yer, ypl, ypr, rn, hs, gv, gt, op, a, b, pa, fi, nx, yp, (upd wn V (a n)), (upd wu V (ye (112 * s + w))), gn, ge, (vp_updL wv V v), yl, (upd ya (112 * s + w) (nI (i + 1))), (upd ye (112 * s + w) (nI V)), yk, yt, yc, yst, yf, yr, ou)) : wpY_deliver post (yd, yg, yN, yi, yo, (nI V), yF, yC, (nI s), yft, ybt, res, yer, ypl, ypr, rn, hs, gv, gt, op, a, b, pa, fi, nx, yp, wn, wu, gn, ge, wv, yl, ya, ye, yk, yt, yc, yst, yf, yr, ou) v := by
  have e := nc_ (n := s) (by omega)
  have ei := nc_ (n := 112 * s + w) (by omega)
  have e2 := nc_ (n := n) (by omega)
  have v7 := vi_ (n := s) (N := 7) h7 (by omega)
  have vn := vi_ (n := n) (N := 96) hn (by omega)
  have v1 := vi_ (n := 112 * s + w) (N := 784) (by omega) (by omega)
  refine ⟨v7, br_f ?_ ⟨v7, nm_r (e' := nI (112 * s + w)) (by rw [e, ht, ix_y]) ⟨v1, nm_r (e' := nI n) (by rw [ei, hl]) ⟨v1, nm_r (e' := nI i) (by rw [ei, ha]) ⟨vn, br_f ?_ ⟨vn, nm_r (e' := nI o) (by rw [e2, ho]) ?_⟩⟩⟩⟩⟩⟩
  · rw [e, ht]; exact nI_ne0 (by omega) (by omega)
  · rw [e2, hp, nI_1]; intro h; have := (nI_eq (by omega) (by omega)).mp h; omega
  · subst hd
    have hV3 : ¬ nI V = 120 := fun h => by
      have := (nI_eq (a := V) (b := 120) (by omega) (by omega)).mp h
      omega
    refine br_f (by decide) (br_f (by decide) (br_f (by decide) (br_f (by decide) (br_f (by decide) (br_t rfl (br_t (by subst h0; rfl) (br_f hV3 (br_t (by subst h0; rfl) ⟨vn, v1, ?_⟩))))))))
    refine y_var hV ?_
    dsimp only
    refine ⟨v1, nm_r (e' := upd ye (112 * s + w) (nI V)) (by rw [ei]) ?_⟩
    rw [ei, e2]
    exact ⟨v1, v1, nm_r (e' := upd ya (112 * s + w) (nI (i + 1))) (by rw [ei, ha, nI_1]) (br_t rfl K)⟩
theorem y_8b {V : Nat} (hV : V < 120) {s w n i p o : Nat} {v : Int64} (h7 : s < 7) (ht : yt s = nI (w + 1)) (hw : w < 112) (hl : yl (112 * s + w) = nI n) (hn : n < 96) (ha : ya (112 * s + w) = nI i) (hp : yp n = nI p) (hi : i < 100) (hp9 : p < 100) (ho : op n = nI o) (hz : i + 1 = p) (hd : o = 8) (h0 : i = 0) (K : wpY_finish post (yd, yg, yN, yi, yo, (nI (V + 1)), yF, yC, (nI s), yft, ybt, res, yer, ypl, ypr, rn, hs, gv, gt, op, a, b, pa, fi, nx, yp, (upd wn V (a n)), (upd wu V (ye (112 * s + w))), gn, ge, (vp_updL wv V v), yl, (upd ya (112 * s + w) (nI (i + 1))), (upd ye (112 * s + w) (nI V)), yk, yt, yc, yst, yf, yr, ou) 4294967296) : wpY_deliver post (yd, yg, yN, yi, yo, (nI V), yF, yC, (nI s), yft, ybt, res, yer, ypl, ypr, rn, hs, gv, gt, op, a, b, pa, fi, nx, yp, wn, wu, gn, ge, wv, yl, ya, ye, yk, yt, yc, yst, yf, yr, ou) v := by
  have e := nc_ (n := s) (by omega)
  have ei := nc_ (n := 112 * s + w) (by omega)
  have e2 := nc_ (n := n) (by omega)
  have v7 := vi_ (n := s) (N := 7) h7 (by omega)
  have vn := vi_ (n := n) (N := 96) hn (by omega)
  have v1 := vi_ (n := 112 * s + w) (N := 784) (by omega) (by omega)
  refine ⟨v7, br_f ?_ ⟨v7, nm_r (e' := nI (112 * s + w)) (by rw [e, ht, ix_y]) ⟨v1, nm_r (e' := nI n) (by rw [ei, hl]) ⟨v1, nm_r (e' := nI i) (by rw [ei, ha]) ⟨vn, br_t ?_ ⟨vn, nm_r (e' := nI o) (by rw [e2, ho]) ?_⟩⟩⟩⟩⟩⟩
  · rw [e, ht]; exact nI_ne0 (by omega) (by omega)
  · rw [e2, hp, nI_1, hz]
  · subst hd
    have hV3 : ¬ nI V = 120 := fun h => by
      have := (nI_eq (a := V) (b := 120) (by omega) (by omega)).mp h
      omega
    refine br_f (by decide) (br_f (by decide) (br_f (by decide) (br_f (by decide) (br_f (by decide) (br_t rfl (br_t (by subst h0; rfl) (br_f hV3 (br_t (by subst h0; rfl) ⟨vn, v1, ?_⟩))))))))
    refine y_var hV ?_
    dsimp only
    refine ⟨v1, nm_r (e' := upd ye (112 * s + w) (nI V)) (by rw [ei]) ?_⟩
    rw [ei, e2]
    exact ⟨v1, v1, nm_r (e' := upd ya (112 * s + w) (nI (i + 1))) (by rw [ei, ha, nI_1]) (br_f (by decide) (br_t (by subst h0; rfl) K))⟩
theorem y_8c {s w n i p o : Nat} {v : Int64} (h7 : s < 7) (ht : yt s = nI (w + 1)) (hw : w < 112) (hl : yl (112 * s + w) = nI n) (hn : n < 96) (ha : ya (112 * s + w) = nI i) (hp : yp n = nI p) (hi : i < 100) (hp9 : p < 100) (ho : op n = nI o) (hz : i + 1 ≠ p) (hd : o = 8) (h0 : 0 < i) (K : post (yd, yg, yN, yi, yo, yV, yF, yC, (nI s), yft, ybt, res, yer, ypl, ypr, rn, hs, gv, gt, op, a, b, pa, fi, nx, yp, wn, wu, gn, ge, wv, yl, (upd ya (112 * s + w) (nI (i + 1))), ye, yk, yt, yc, yst, yf, yr, ou)) : wpY_deliver post (yd, yg, yN, yi, yo, yV, yF, yC, (nI s), yft, ybt, res, yer, ypl, ypr, rn, hs, gv, gt, op, a, b, pa, fi, nx, yp, wn, wu, gn, ge, wv, yl, ya, ye, yk, yt, yc, yst, yf, yr, ou) v := by
  have e := nc_ (n := s) (by omega)
  have ei := nc_ (n := 112 * s + w) (by omega)
  have e2 := nc_ (n := n) (by omega)
  have v7 := vi_ (n := s) (N := 7) h7 (by omega)
  have vn := vi_ (n := n) (N := 96) hn (by omega)
  have v1 := vi_ (n := 112 * s + w) (N := 784) (by omega) (by omega)
  refine ⟨v7, br_f ?_ ⟨v7, nm_r (e' := nI (112 * s + w)) (by rw [e, ht, ix_y]) ⟨v1, nm_r (e' := nI n) (by rw [ei, hl]) ⟨v1, nm_r (e' := nI i) (by rw [ei, ha]) ⟨vn, br_f ?_ ⟨vn, nm_r (e' := nI o) (by rw [e2, ho]) ?_⟩⟩⟩⟩⟩⟩
  · rw [e, ht]; exact nI_ne0 (by omega) (by omega)
  · rw [e2, hp, nI_1]; intro h; have := (nI_eq (by omega) (by omega)).mp h; omega
  · subst hd
    exact (br_f (by decide) (br_f (by decide) (br_f (by decide) (br_f (by decide) (br_f (by decide) (br_t rfl (br_f (nI_ne0 h0 (by omega)) (br_f (nI_ne0 h0 (by omega)) ⟨v1, v1, nm_r (e' := upd ya (112 * s + w) (nI (i + 1))) (by rw [ei, ha, nI_1]) (br_t rfl K)⟩))))))))
theorem y_8d {s w n i p o : Nat} {v : Int64} (h7 : s < 7) (ht : yt s = nI (w + 1)) (hw : w < 112) (hl : yl (112 * s + w) = nI n) (hn : n < 96) (ha : ya (112 * s + w) = nI i) (hp : yp n = nI p) (hi : i < 100) (hp9 : p < 100) (ho : op n = nI o) (hz : i + 1 = p) (hd : o = 8) (h0 : 0 < i) (K : wpY_finish post (yd, yg, yN, yi, yo, yV, yF, yC, (nI s), yft, ybt, res, yer, ypl, ypr, rn, hs, gv, gt, op, a, b, pa, fi, nx, yp, wn, wu, gn, ge, wv, yl, (upd ya (112 * s + w) (nI (i + 1))), ye, yk, yt, yc, yst, yf, yr, ou) v) : wpY_deliver post (yd, yg, yN, yi, yo, yV, yF, yC, (nI s), yft, ybt, res, yer, ypl, ypr, rn, hs, gv, gt, op, a, b, pa, fi, nx, yp, wn, wu, gn, ge, wv, yl, ya, ye, yk, yt, yc, yst, yf, yr, ou) v := by
  have e := nc_ (n := s) (by omega)
  have ei := nc_ (n := 112 * s + w) (by omega)
  have e2 := nc_ (n := n) (by omega)
  have v7 := vi_ (n := s) (N := 7) h7 (by omega)
  have vn := vi_ (n := n) (N := 96) hn (by omega)
  have v1 := vi_ (n := 112 * s + w) (N := 784) (by omega) (by omega)
  refine ⟨v7, br_f ?_ ⟨v7, nm_r (e' := nI (112 * s + w)) (by rw [e, ht, ix_y]) ⟨v1, nm_r (e' := nI n) (by rw [ei, hl]) ⟨v1, nm_r (e' := nI i) (by rw [ei, ha]) ⟨vn, br_t ?_ ⟨vn, nm_r (e' := nI o) (by rw [e2, ho]) ?_⟩⟩⟩⟩⟩⟩
  · rw [e, ht]; exact nI_ne0 (by omega) (by omega)
  · rw [e2, hp, nI_1, hz]
  · subst hd
    exact (br_f (by decide) (br_f (by decide) (br_f (by decide) (br_f (by decide) (br_f (by decide) (br_t rfl (br_f (nI_ne0 h0 (by omega)) (br_f (nI_ne0 h0 (by omega)) ⟨v1, v1, nm_r (e' := upd ya (112 * s + w) (nI (i + 1))) (by rw [ei, ha, nI_1]) (br_f (by decide) (br_f (nI_ne0 h0 (by omega)) K))⟩))))))))
theorem y_del0 {s : Nat} {v : Int64} (h7 : s < 7) (ht : yt s = nI 0) (K : post (yd, yg, yN, yi, yo, yV, yF, yC, (nI s), yft, ybt, 0, yer, ypl, ypr, 0, hs, v, gt, op, a, b, pa, fi, nx, yp, wn, wu, gn, ge, wv, yl, ya, ye, yk, yt, yc, yst, yf, yr, ou)) : wpY_deliver post (yd, yg, yN, yi, yo, yV, yF, yC, (nI s), yft, ybt, res, yer, ypl, ypr, rn, hs, gv, gt, op, a, b, pa, fi, nx, yp, wn, wu, gn, ge, wv, yl, ya, ye, yk, yt, yc, yst, yf, yr, ou) v := by
  have e := nc_ (n := s) (by omega)
  exact ⟨vi_ h7 (by omega), br_t (by rw [e, ht]; rfl) K⟩
end
section
/-- both sides agree on what is false -/
theorem xy_false {F C : Nat} {x y : Int64} (hF : F ≤ 40) (hC : C ≤ 6) (h : cv_R F C x y) : (∃ z : Int32, (z = 0 ∨ z = 1) ∧ (∀ q : Int32 → Prop, q z → wpX_isFalse q x) ∧ (∀ (q : Int32 → Prop) (u : SY), q z → wpY_isFalse q u y)) := by
  rcases cv_cases hF h with ⟨n, hn, rfl, rfl⟩ | ⟨rfl, rfl⟩ | ⟨f, hf, rfl, rfl⟩ | ⟨c, hc, rfl, rfl⟩
  · by_cases h0 : n = 0
    · subst h0
      exact ⟨1, Or.inr rfl, fun q hq => br_f (by decide) (br_t rfl hq), fun q u hq => br_t rfl hq⟩
    · refine ⟨0, Or.inl rfl, fun q hq => br_f ?_ (br_f ?_ hq), fun q u hq => br_f ?_ (br_f ?_ hq)⟩
      · exact fun h => absurd ((vo_eq (y := 0) (by omega) (by omega)).mp h) (by omega)
      · exact fun h => absurd ((vo_eq (y := 4294967296) (by omega) (by omega)).mp h) (by omega)
      · exact fun h => absurd ((vo_eq (y := 0) (by omega) (by omega)).mp h) (by omega)
      · exact fun h => absurd ((vo_eq (y := 4294967296) (by omega) (by omega)).mp h) (by omega)
  · exact ⟨1, Or.inr rfl, fun q hq => br_t rfl hq, fun q u hq => br_f (by decide) (br_t rfl hq)⟩
  · refine ⟨0, Or.inl rfl, fun q hq => br_f ?_ (br_f ?_ hq), fun q u hq => br_f ?_ (br_f ?_ hq)⟩
    · exact fun h => absurd ((vo_eq (y := 0) (by omega) (by omega)).mp h) (by omega)
    · exact fun h => absurd ((vo_eq (y := 4294967296) (by omega) (by omega)).mp h) (by omega)
    · exact fun h => absurd ((vo_eq (y := 0) (by omega) (by omega)).mp h) (by omega)
    · exact fun h => absurd ((vo_eq (y := 4294967296) (by omega) (by omega)).mp h) (by omega)
  · refine ⟨0, Or.inl rfl, fun q hq => br_f ?_ (br_f ?_ hq), fun q u hq => br_f ?_ (br_f ?_ hq)⟩
    · exact fun h => absurd ((vo_eq (y := 0) (by omega) (by omega)).mp h) (by omega)
    · exact fun h => absurd ((vo_eq (y := 4294967296) (by omega) (by omega)).mp h) (by omega)
    · exact fun h => absurd ((vo_eq (y := 0) (by omega) (by omega)).mp h) (by omega)
    · exact fun h => absurd ((vo_eq (y := 4294967296) (by omega) (by omega)).mp h) (by omega)
end
end
section
section
variable {xd xg xN xL xF xV xC xs ph : Int32} {cr : Int64} {ec en ft bt pr : Int32} {op a b xp fi xl nx xo fn fe vn vo : Nat → Int32} {vv : Nat → Int64} {xst xf xr xh xc fN fX fS fT : Nat → Int32} {fL pv : Nat → Int64}
variable {post : SX → Prop}
theorem x_if0t {i : Int32} (hf : ∀ q : Int32 → Prop, q 0 → wpX_isFalse q cr) (K : post (xd, xg, xN, xL, xF, xV, xC, xs, ph, cr, ec, en, ft, bt, pr, op, a, b, xp, fi, xl, nx, xo, fn, fe, vn, vo, vv, xst, xf, xr, xh, xc, fN, fX, fS, fT, fL, pv)) : wpX_takeInIf post (xd, xg, xN, xL, xF, xV, xC, xs, ph, cr, ec, en, ft, bt, pr, op, a, b, xp, fi, xl, nx, xo, fn, fe, vn, vo, vv, xst, xf, xr, xh, xc, fN, fX, fS, fT, fL, pv) i (nI 0) := br_t (by decide) (hf _ (br_t rfl K))
theorem x_if0f {i m : Nat} (hi : i < 896) (hm : m < 96) (hx : fX i = nI m) (hf : ∀ q : Int32 → Prop, q 1 → wpX_isFalse q cr) (K : post (xd, xg, xN, xL, xF, xV, xC, xs, ph, cr, ec, en, ft, bt, pr, op, a, b, xp, fi, xl, nx, xo, fn, fe, vn, vo, vv, xst, xf, xr, xh, xc, fN, (upd fX i (nx m)), fS, fT, fL, pv)) : wpX_takeInIf post (xd, xg, xN, xL, xF, xV, xC, xs, ph, cr, ec, en, ft, bt, pr, op, a, b, xp, fi, xl, nx, xo, fn, fe, vn, vo, vv, xst, xf, xr, xh, xc, fN, fX, fS, fT, fL, pv) (nI i) (nI 0) := by
  have ei := nc_ (n := i) (by omega)
  have em := nc_ (n := m) (by omega)
  have wi := vi_ (n := i) (N := 896) hi (by omega)
  refine br_t (by decide) (hf _ (br_f (by decide) ⟨wi, ?_, wi, nm_r (e' := upd fX i (nx m)) (by rw [ei, hx, em]) K⟩))
  rw [ei, hx]; exact vi_ hm (by omega)
theorem x_if1 {i t : Nat} (hi : i < 896) (h0 : 0 < t) (h9 : t < 1000) (K : post (xd, xg, xN, xL, xF, xV, xC, xs, ph, cr, ec, en, ft, bt, pr, op, a, b, xp, fi, xl, nx, xo, fn, fe, vn, vo, vv, xst, xf, xr, xh, xc, fN, (upd fX i (-1)), fS, fT, (vp_updL fL (i * 4) cr), pv)) : wpX_takeInIf post (xd, xg, xN, xL, xF, xV, xC, xs, ph, cr, ec, en, ft, bt, pr, op, a, b, xp, fi, xl, nx, xo, fn, fe, vn, vo, vv, xst, xf, xr, xh, xc, fN, fX, fS, fT, fL, pv) (nI i) (nI t) := by
  have ei := nc_ (n := i) (by omega)
  have e4 := nc_ (n := i * 4) (by omega)
  have wi := vi_ (n := i) (N := 896) hi (by omega)
  have w4 : vp_in (nI i * 4) 3584 := by rw [ix_4]; exact vi_ (by omega) (by omega)
  exact br_f (nI_nle h0 (by omega)) ⟨w4, nm_r (e' := vp_updL fL (i * 4) cr) (by rw [ix_4, e4]) ⟨wi, nm_r (e' := upd fX i (-1)) (by rw [ei]) K⟩⟩
theorem x_loc1 {i t : Nat} (hi : i < 896) (h0 : 0 < t) (h9 : t < 1000) (K : post (xd, xg, xN, xL, xF, xV, xC, xs, ph, cr, ec, en, ft, bt, pr, op, a, b, xp, fi, xl, nx, xo, fn, fe, vn, vo, vv, xst, xf, xr, xh, xc, fN, fX, fS, fT, (vp_updL fL (i * 4) cr), pv)) : wpX_takeInLocal post (xd, xg, xN, xL, xF, xV, xC, xs, ph, cr, ec, en, ft, bt, pr, op, a, b, xp, fi, xl, nx, xo, fn, fe, vn, vo, vv, xst, xf, xr, xh, xc, fN, fX, fS, fT, fL, pv) (nI i) (nI t) := by
  have e4 := nc_ (n := i * 4) (by omega)
  have wi := vi_ (n := i) (N := 896) hi (by omega)
  have w4 : vp_in (nI i * 4) 3584 := by rw [ix_4]; exact vi_ (by omega) (by omega)
  exact ⟨wi, nm_e (br_f (nI_nle h0 (by omega)) ⟨w4, nm_r (e' := vp_updL fL (i * 4) cr) (by rw [ix_4, e4]) K⟩)⟩
theorem x_loc0e {i m : Nat} (hi : i < 896) (hn : fN i = nI m) (K : wpX_raise post (xd, xg, xN, xL, xF, (nI 120), xC, xs, ph, cr, ec, en, ft, bt, pr, op, a, b, xp, fi, xl, nx, xo, fn, fe, vn, vo, vv, xst, xf, xr, xh, xc, fN, fX, fS, fT, fL, pv) 7 (nI m)) : wpX_takeInLocal post (xd, xg, xN, xL, xF, (nI 120), xC, xs, ph, cr, ec, en, ft, bt, pr, op, a, b, xp, fi, xl, nx, xo, fn, fe, vn, vo, vv, xst, xf, xr, xh, xc, fN, fX, fS, fT, fL, pv) (nI i) (nI 0) := by
  have ei := nc_ (n := i) (by omega)
  have wi := vi_ (n := i) (N := 896) hi (by omega)
  exact ⟨wi, nm_r (e' := nI m) (by rw [ei, hn]) (br_t (by decide) (br_f (by decide) K))⟩
theorem x_loc0 {i m V : Nat} (hi : i < 896) (hn : fN i = nI m) (hm : m < 96) (hV : V < 120) (K : post (xd, xg, xN, xL, xF, (nI (V + 1)), xC, xs, ph, cr, ec, en, ft, bt, pr, op, a, b, xp, fi, xl, nx, xo, fn, fe, (upd vn (V + 1) (a m)), (upd vo (V + 1) (fS i)), (vp_updL vv (V + 1) cr), xst, xf, xr, xh, xc, fN, fX, (upd fS i (nI (V + 1))), fT, fL, pv)) : wpX_takeInLocal post (xd, xg, xN, xL, xF, (nI V), xC, xs, ph, cr, ec, en, ft, bt, pr, op, a, b, xp, fi, xl, nx, xo, fn, fe, vn, vo, vv, xst, xf, xr, xh, xc, fN, fX, fS, fT, fL, pv) (nI i) (nI 0) := by
  have ei := nc_ (n := i) (by omega)
  have em := nc_ (n := m) (by omega)
  have wi := vi_ (n := i) (N := 896) hi (by omega)
  have wm := vi_ (n := m) (N := 96) hm (by omega)
  refine ⟨wi, nm_r (e' := nI m) (by rw [ei, hn]) (br_t (by decide) (br_t (nI_lt (b := 120) hV (by omega)) ⟨wm, wi, ?_⟩))⟩
  refine x_var hV ?_
  dsimp only
  refine ⟨wi, nm_r (e' := upd fS i (nI (V + 1))) (by rw [ei]) ?_⟩
  rw [ei, em]
  exact K
end
section
variable {op a b fi nx pa : Nat → Int32} {N : Nat} {oc pc E lv : Nat → Nat} {kd : Nat → Nat → Nat} {SC : Nat → Int32 → Prop}
variable {F C V : Nat} {D : Nat → Int32 → Prop} {K T : Nat → Nat → Nat} {fN fX fS fT : Nat → Int32} {fL : Nat → Int64} {yl ya ye : Nat → Int32} {yk : Nat → Int64} {P H : Nat → Nat} {dep : Nat} {xh xc yt yc fn fe gn ge vn vo : Nat → Int32} {vv : Nat → Int64} {wn wu : Nat → Int32} {wv : Nat → Int64} {xst xf xr yst yf yr : Nat → Int32} {Q : Nat → Nat} {k s h : Nat}
variable {fu : Nat} {xN xL : Int32} {xp xl xo : Nat → Int32} {yN yi yo : Int32} {yp : Nat → Int32}
variable {ph ec en ft : Int32} {cr gv gt : Int64} {q w φ : Nat} {pv ou : Nat → Int64} {hs : Int32}
theorem cr_rdy {n i e d φ' q' : Nat} (ht : (ct_all op a b fi nx pa N oc pc E lv kd SC)) (h1 : (cc_C N oc pc E lv kd a b SC F C V D K T fN fX fS fT fL yl ya ye yk P H dep xh xc yt yc fn fe gn ge vn vo vv wn wu wv xst xf xr yst yf yr Q k s h)) (g1 : n < N) (g2 : oc n < 19) (g3 : i < pc n) (g4 : e ≤ V) (g5 : fN (s * 128 + h) = nI n) (g6 : fT (s * 128 + h) = nI (ct_tk (oc n) i)) (g7 : fS (s * 128 + h) = nI e) (g8 : yl (112 * s + (h + K s (h + 1) - cz_ s)) = nI n) (g9 : ya (112 * s + (h + K s (h + 1) - cz_ s)) = nI i) (g10 : ye (112 * s + (h + K s (h + 1) - cz_ s)) = nI e - 1) (g11 : ∀ c, ct_in oc a b SC n i c → D e c) (g12 : cf_S F C (oc n) i (fun q => fL ((s * 128 + h) * 4 + q)) (fun q => yk (3 * (112 * s + (h + K s (h + 1) - cz_ s)) + q))) (g13 : K s (h + 1) = K s h + (if oc n = 10 then 1 else 0)) (g14 : cz_ s ≤ K s (h + 1)) (g15 : h + 1 + K s (h + 1) ≤ 16 * K s (h + 1) + lv n + cz_ s) (hn : fX (s * 128 + h) = nI (kd n i)) (b1 : K s (h + 1) ≤ dep) (b3 : xh s = nI (h + 1)) (b4 : yt s = nI (h + 1 + K s (h + 1) - cz_ s)) (b5 : xc s = nI (K s (h + 1))) (b6 : yc s = nI (K s (h + 1))) (hφ : φ' + d ≤ φ) (hk' : (cr_K φ' fu q' w F C (ch_ P s (T s h + 4 * (E n - kd n i) + 3)) pv ou)) : cr_T op a b fi nx pa N oc pc E lv kd SC dep fu xN xL xp xl xo yN yi yo yp φ d ((nI dep), (nI fu), xN, xL, (nI F), (nI V), (nI C), (nI s), (-1), cr, ec, en, ft, (nI q'), (nI w), op, a, b, xp, fi, xl, nx, xo, fn, fe, vn, vo, vv, xst, xf, xr, xh, xc, fN, fX, fS, fT, fL, pv) ((nI dep), (nI fu), yN, yi, yo, (nI V), (nI F), (nI C), (nI s), ft, (nI q'), 0, 0, (-1), (nI w), 1, 0, gv, gt, op, a, b, pa, fi, nx, yp, wn, wu, gn, ge, wv, yl, ya, ye, yk, yt, yc, yst, yf, yr, ou) := by
  have h6 := cc_dep h1
  have hKK : K s h ≤ K s (h + 1) := by omega
  have hh := cf_h ht (cc_FR h1) (by omega)
  refine cr_mkB (T := kt_ T s (h + 1) (T s h + 4 * (E n - kd n i) + 3)) (P := ch_ P s (T s h + 4 * (E n - kd n i) + 3)) hφ (cc_fr ht h1 (by omega) (by omega) (fun _ _ _ => rfl) (fun r j hr => kt_n (by omega)) ca_r ca_r ca_r ca_r ca_r ca_r ca_r ca_r ca_r ca_c ca_r ca_r ca_r ca_r) ?_ ⟨⟨b1, ?_⟩, b3, b4, b5, b6⟩ hk'
  · refine ⟨n, i, e, ⟨⟨g1, g2, g3, g4⟩, ⟨g5, g6, g7⟩, ⟨g8, g9, g10⟩, g11, g12, ⟨g13, g14, g15⟩⟩, hn, ?_⟩
    rw [kt_s, kt_n (by omega)]; exact Nat.le_refl _
  · rw [kt_s, ch_s]; exact Nat.le_refl _
theorem ct_tkn {o i : Nat} (h : o ≠ 5) : ct_tk o i = i := if_neg h
theorem ct_mxD {o : Nat} (hd : o < 5 ∨ 10 < o ∨ o = 9) : ct_mx o ≤ 4 := by
  unfold ct_mx
  split
  · omega
  · split
    · omega
    · split
      · omega
      · split
        · omega
        · split <;> omega
theorem ct_inS {n i j : Nat} {c : Int32} (h : ct_in oc a b SC n i c) (ho : oc n ≠ 8) : ct_in oc a b SC n j c := by
  rcases h with h | h | h
  · exact Or.inl h
  · exact absurd h.1 ho
  · exact Or.inr (Or.inr h)
theorem ct_inL {n i j : Nat} {c : Int32} (h : ct_in oc a b SC n i c) (hj : 0 < j) : ct_in oc a b SC n j c := by
  rcases h with h | h | h
  · exact Or.inl h
  · exact Or.inr (Or.inl ⟨h.1, hj, h.2.2⟩)
  · exact Or.inr (Or.inr h)
theorem ct_nxl {n q : Nat} (h : q < pc n) : ct_nx pc kd n q = nI (kd n q) := if_pos h
theorem ct_nxe {n q : Nat} (h : ¬ q < pc n) : ct_nx pc kd n q = -1 := if_neg h
/-- a value is kept, the next part follows -/
theorem sA_Dn {n i e : Nat} (ht : (ct_all op a b fi nx pa N oc pc E lv kd SC)) (hyp : ∀ n, n < N → xp n = nI (pc n) ∧ yp n = nI (pc n)) (h1 : (cc_C N oc pc E lv kd a b SC F C V D K T fN fX fS fT fL yl ya ye yk P H dep xh xc yt yc fn fe gn ge vn vo vv wn wu wv xst xf xr yst yf yr Q k s h)) (g1 : n < N) (g2 : oc n < 19) (g3 : i < pc n) (g4 : e ≤ V) (g5 : fN (s * 128 + h) = nI n) (g6 : fT (s * 128 + h) = nI (ct_tk (oc n) i)) (g7 : fS (s * 128 + h) = nI e) (g8 : yl (112 * s + (h + K s (h + 1) - cz_ s)) = nI n) (g9 : ya (112 * s + (h + K s (h + 1) - cz_ s)) = nI i) (g10 : ye (112 * s + (h + K s (h + 1) - cz_ s)) = nI e - 1) (g11 : ∀ c, ct_in oc a b SC n i c → D e c) (g12 : cf_S F C (oc n) i (fun q => fL ((s * 128 + h) * 4 + q)) (fun q => yk (3 * (112 * s + (h + K s (h + 1) - cz_ s)) + q))) (g13 : K s (h + 1) = K s h + (if oc n = 10 then 1 else 0)) (g14 : cz_ s ≤ K s (h + 1)) (g15 : h + 1 + K s (h + 1) ≤ 16 * K s (h + 1) + lv n + cz_ s) (hn : fX (s * 128 + h) = ct_nx pc kd n (i + 1)) (hT : T s h + 4 * (E n - E (kd n i)) + 3 ≤ T s (h + 1)) (b1 : K s (h + 1) ≤ dep) (b2 : T s (h + 1) + 2 ≤ P s) (b3 : xh s = nI (h + 1)) (b4 : yt s = nI (h + 1 + K s (h + 1) - cz_ s)) (b5 : xc s = nI (K s (h + 1))) (b6 : yc s = nI (K s (h + 1))) (hk : (cr_K φ fu q w F C P pv ou)) (hv : cv_R F C cr gt) (hd : oc n < 5 ∨ 10 < oc n ∨ oc n = 9) (hlt : i + 1 < pc n) : ∃ u2 v2 kx, xs_ (kx + 1) ((nI dep), (nI fu), xN, xL, (nI F), (nI V), (nI C), (nI s), (-2), cr, ec, en, ft, (nI q), (nI w), op, a, b, xp, fi, xl, nx, xo, fn, fe, vn, vo, vv, xst, xf, xr, xh, xc, fN, fX, fS, fT, fL, pv) u2 ∧ (∀ post : SY → Prop, post v2 → wpY_deliver post ((nI dep), (nI fu), yN, yi, yo, (nI V), (nI F), (nI C), (nI s), ft, (nI q), 0, 0, (-1), (nI w), 1, 0, gv, gt, op, a, b, pa, fi, nx, yp, wn, wu, gn, ge, wv, yl, ya, ye, yk, yt, yc, yst, yf, yr, ou) gt) ∧ cr_T op a b fi nx pa N oc pc E lv kd SC dep fu xN xL xp xl xo yN yi yo yp φ (kx + 1) u2 v2 := by
  have h7 := (cc_s h1).2
  have h6 := cc_dep h1
  have hKK : K s h ≤ K s (h + 1) := by omega
  have hh := cf_h ht (cc_FR h1) (by omega)
  have hN := ht.2.1
  have hl := (ht.2.2.2.2 n g1).2.2.2.1.2 (by omega)
  have hzl := cz_le s
  have hw : h + K s (h + 1) - cz_ s < 112 := by omega
  have o_ : op n = nI (oc n) := ct_op ht g1 rfl
  have b4' : yt s = nI (h + K s (h + 1) - cz_ s + 1) := by rw [b4]; exact congrArg nI (by omega)
  have hpn := (ht.2.2.2.2 n g1).1.2.2.2
  have yp_ := (hyp n g1).2
  have hEn := ct_E ht g1
  have hkd := (ht.2.2.2.2 n g1).2.2.2.2.2.1
  have h5 : ct_tk (oc n) i = i := ct_tkn (by omega)
  have hmx := Nat.le_trans (ct_mn' ht g1).2 (ct_mxD hd)
  have k1 := hkd i g3
  have k2 := hkd (i + 1) hlt
  have k3 := ct_E ht k2.2.1
  have k4 := ((ht.2.2.2.2 n g1).2.2.2.2.2.2 trivial).2.2.2 (i + 1) hlt
  have k5 := (k1.2.2.2.2.1 hlt).2.1
  rw [h5] at g6
  obtain ⟨φ', hφ, hk'⟩ := cr_P (P' := ch_ P s (T s h + 4 * (E n - kd n (i + 1)) + 3)) (d := 1) hk h7 rfl (by omega)
  have h2 : (cc_C N oc pc E lv kd a b SC F C V D K T fN fX fS (upd fT (s * 128 + h) (nI (i + 1))) (vp_updL fL ((s * 128 + h) * 4 + i) cr) yl (upd ya (112 * s + (h + K s (h + 1) - cz_ s)) (nI (i + 1))) ye (vp_updL yk (3 * (112 * s + (h + K s (h + 1) - cz_ s)) + i) gt) P H dep xh xc yt yc fn fe gn ge vn vo vv wn wu wv xst xf xr yst yf yr Q k s h) := cc_fr ht h1 (by omega) (by omega) (fun _ _ _ => rfl) (fun _ _ _ => rfl) ca_r ca_r ca_r (ca_u ca_r (by omega) (by omega)) (ca_l ca_r (by omega) (by omega)) ca_r (ca_u ca_r (by omega) (by omega)) ca_r (ca_l ca_r (by omega) (by omega)) ca_r ca_r ca_r ca_r ca_r
  refine ⟨_, _, 0, xs_d (fun post K => x_del h7 (by omega) b3 (x_takeD h7 (by omega) b3 g5 (by omega) o_ (by omega) g6 hd (by omega) K)), fun post K => y_Dn h7 b4' hw g8 (by omega) g9 yp_ (by omega) (by omega) o_ (by omega) hd (by omega) (Or.inl (by omega)) K, cr_rdy ht h2 g1 g2 hlt g4 g5 ?_ g7 g8 pk_us g10 (fun c hc => g11 c (ct_inS hc (by omega))) ?_ g13 g14 g15 (hn.trans (ct_nxl hlt)) b1 b3 b4 b5 b6 hφ hk'⟩
  · rw [pk_us, ct_tkn (by omega)]
  · refine ⟨fun h => by omega, fun h9 q hq hq3 => ?_⟩
    by_cases e1 : q = i
    · subst e1
      dsimp only
      rw [pk_uLs, pk_uLs]; exact hv
    · dsimp only
      rw [pk_uLn (by omega), pk_uLn (by omega)]
      exact g12.2 h9 q (by omega) hq3
/-- the then-part or the else-part follows -/
theorem sA_if0 {n i e : Nat} (ht : (ct_all op a b fi nx pa N oc pc E lv kd SC)) (hyp : ∀ n, n < N → xp n = nI (pc n) ∧ yp n = nI (pc n)) (h1 : (cc_C N oc pc E lv kd a b SC F C V D K T fN fX fS fT fL yl ya ye yk P H dep xh xc yt yc fn fe gn ge vn vo vv wn wu wv xst xf xr yst yf yr Q k s h)) (g1 : n < N) (g2 : oc n < 19) (g3 : i < pc n) (g4 : e ≤ V) (g5 : fN (s * 128 + h) = nI n) (g6 : fT (s * 128 + h) = nI (ct_tk (oc n) i)) (g7 : fS (s * 128 + h) = nI e) (g8 : yl (112 * s + (h + K s (h + 1) - cz_ s)) = nI n) (g9 : ya (112 * s + (h + K s (h + 1) - cz_ s)) = nI i) (g10 : ye (112 * s + (h + K s (h + 1) - cz_ s)) = nI e - 1) (g11 : ∀ c, ct_in oc a b SC n i c → D e c) (g12 : cf_S F C (oc n) i (fun q => fL ((s * 128 + h) * 4 + q)) (fun q => yk (3 * (112 * s + (h + K s (h + 1) - cz_ s)) + q))) (g13 : K s (h + 1) = K s h + (if oc n = 10 then 1 else 0)) (g14 : cz_ s ≤ K s (h + 1)) (g15 : h + 1 + K s (h + 1) ≤ 16 * K s (h + 1) + lv n + cz_ s) (hn : fX (s * 128 + h) = ct_nx pc kd n (i + 1)) (hT : T s h + 4 * (E n - E (kd n i)) + 3 ≤ T s (h + 1)) (b1 : K s (h + 1) ≤ dep) (b2 : T s (h + 1) + 2 ≤ P s) (b3 : xh s = nI (h + 1)) (b4 : yt s = nI (h + 1 + K s (h + 1) - cz_ s)) (b5 : xc s = nI (K s (h + 1))) (b6 : yc s = nI (K s (h + 1))) (hk : (cr_K φ fu q w F C P pv ou)) (hv : cv_R F C cr gt) (hd : oc n = 5) (h0 : i = 0) : ∃ u2 v2 kx, xs_ (kx + 1) ((nI dep), (nI fu), xN, xL, (nI F), (nI V), (nI C), (nI s), (-2), cr, ec, en, ft, (nI q), (nI w), op, a, b, xp, fi, xl, nx, xo, fn, fe, vn, vo, vv, xst, xf, xr, xh, xc, fN, fX, fS, fT, fL, pv) u2 ∧ (∀ post : SY → Prop, post v2 → wpY_deliver post ((nI dep), (nI fu), yN, yi, yo, (nI V), (nI F), (nI C), (nI s), ft, (nI q), 0, 0, (-1), (nI w), 1, 0, gv, gt, op, a, b, pa, fi, nx, yp, wn, wu, gn, ge, wv, yl, ya, ye, yk, yt, yc, yst, yf, yr, ou) gt) ∧ cr_T op a b fi nx pa N oc pc E lv kd SC dep fu xN xL xp xl xo yN yi yo yp φ (kx + 1) u2 v2 := by
  have h7 := (cc_s h1).2
  have h6 := cc_dep h1
  have hKK : K s h ≤ K s (h + 1) := by omega
  have hh := cf_h ht (cc_FR h1) (by omega)
  have hN := ht.2.1
  have hl := (ht.2.2.2.2 n g1).2.2.2.1.2 (by omega)
  have hzl := cz_le s
  have hw : h + K s (h + 1) - cz_ s < 112 := by omega
  have o_ : op n = nI (oc n) := ct_op ht g1 rfl
  have b4' : yt s = nI (h + K s (h + 1) - cz_ s + 1) := by rw [b4]; exact congrArg nI (by omega)
  have hpn := (ht.2.2.2.2 n g1).1.2.2.2
  have yp_ := (hyp n g1).2
  have hEn := ct_E ht g1
  have hkd := (ht.2.2.2.2 n g1).2.2.2.2.2.1
  have hp3 : pc n = 3 := by
    have h3 := ct_mn' ht g1
    rw [hd] at h3
    have e1 : ct_mn 5 = 3 := rfl
    have e2 : ct_mx 5 = 3 := rfl
    omega
  subst h0
  have g6' : fT (s * 128 + h) = nI 0 := by rw [g6, hd]; rfl
  have k0 := hkd 0 (by omega)
  have k1 := hkd 1 (by omega)
  have k2 := hkd 2 (by omega)
  have j1 : E (kd n 0) ≤ kd n 1 := (k0.2.2.2.2.1 (by omega)).2.1
  have j2 : E (kd n 1) ≤ kd n 2 := (k1.2.2.2.2.1 (by omega)).2.1
  have l1 := ct_E ht k1.2.1
  have l2 := ct_E ht k2.2.1
  have m1 := ((ht.2.2.2.2 n g1).2.2.2.2.2.2 trivial).2.2.2 1 (by omega)
  have m2 := ((ht.2.2.2.2 n g1).2.2.2.2.2.2 trivial).2.2.2 2 (by omega)
  have hx1 : fX (s * 128 + h) = nI (kd n 1) := hn.trans (ct_nxl (by omega))
  have hx2 : nx (kd n 1) = nI (kd n 2) := (k1.2.2.2.2.1 (by omega)).1
  obtain ⟨z, hz, hfX, hfY⟩ := xy_false h1.1.1 h1.1.2.1 hv
  rcases hz with hz | hz
  · subst hz
    obtain ⟨φ', hφ, hk'⟩ := cr_P (P' := ch_ P s (T s h + 4 * (E n - kd n 1) + 3)) (d := 1) hk h7 rfl (by omega)
    have h2 : (cc_C N oc pc E lv kd a b SC F C V D K T fN fX fS (upd fT (s * 128 + h) (nI (0 + 1))) fL yl (upd ya (112 * s + (h + K s (h + 1) - cz_ s)) 1) ye yk P H dep xh xc yt yc fn fe gn ge vn vo vv wn wu wv xst xf xr yst yf yr Q k s h) := cc_fr ht h1 (by omega) (by omega) (fun _ _ _ => rfl) (fun _ _ _ => rfl) ca_r ca_r ca_r (ca_u ca_r (by omega) (by omega)) ca_r ca_r (ca_u ca_r (by omega) (by omega)) ca_r ca_r ca_r ca_r ca_r ca_r ca_r
    refine ⟨_, _, 0, xs_d (fun post K => x_del h7 (by omega) b3 (x_take5 h7 (by omega) b3 g5 (by omega) o_ (by omega) g6' hd (x_if0t hfX K))), fun post K => y_5a h7 b4' hw g8 (by omega) g9 yp_ (by omega) (by omega) o_ (by omega) hd rfl (fun q hq => hfY q _ hq) K, cr_rdy (i := 1) ht h2 g1 g2 (by omega) g4 g5 ?_ g7 g8 pk_us g10 (fun c hc => g11 c (ct_inS hc (by omega))) ?_ g13 g14 g15 hx1 b1 b3 b4 b5 b6 hφ hk'⟩
    · rw [pk_us, hd]; rfl
    · exact ⟨fun h => by omega, fun h => absurd hd h.1⟩
  · subst hz
    obtain ⟨φ', hφ, hk'⟩ := cr_P (P' := ch_ P s (T s h + 4 * (E n - kd n 2) + 3)) (d := 1) hk h7 rfl (by omega)
    have h2 : (cc_C N oc pc E lv kd a b SC F C V D K T fN (upd fX (s * 128 + h) (nx (kd n 1))) fS (upd fT (s * 128 + h) (nI (0 + 1))) fL yl (upd ya (112 * s + (h + K s (h + 1) - cz_ s)) 2) ye yk P H dep xh xc yt yc fn fe gn ge vn vo vv wn wu wv xst xf xr yst yf yr Q k s h) := cc_fr ht h1 (by omega) (by omega) (fun _ _ _ => rfl) (fun _ _ _ => rfl) ca_r (ca_u ca_r (by omega) (by omega)) ca_r (ca_u ca_r (by omega) (by omega)) ca_r ca_r (ca_u ca_r (by omega) (by omega)) ca_r ca_r ca_r ca_r ca_r ca_r ca_r
    refine ⟨_, _, 0, xs_d (fun post K => x_del h7 (by omega) b3 (x_take5 h7 (by omega) b3 g5 (by omega) o_ (by omega) g6' hd (x_if0f (by omega) (by omega) hx1 hfX K))), fun post K => y_5b h7 b4' hw g8 (by omega) g9 yp_ (by omega) (by omega) o_ (by omega) hd rfl (fun q hq => hfY q _ hq) K, cr_rdy (i := 2) ht h2 g1 g2 (by omega) g4 g5 ?_ g7 g8 pk_us g10 (fun c hc => g11 c (ct_inS hc (by omega))) ?_ g13 g14 g15 (pk_us.trans hx2) b1 b3 b4 b5 b6 hφ hk'⟩
    · rw [pk_us, hd]; rfl
    · exact ⟨fun h => by omega, fun h => absurd hd h.1⟩
end
end
section
section
variable {xd xg xN xL xF xV xC xs ph : Int32} {cr : Int64} {ec en ft bt pr : Int32} {op a b xp fi xl nx xo fn fe vn vo : Nat → Int32} {vv : Nat → Int64} {xst xf xr xh xc fN fX fS fT : Nat → Int32} {fL pv : Nat → Int64}
variable {post : SX → Prop}
theorem x_del0 {s r h : Nat} (h0 : 1 ≤ s) (hs : s < 7) (hr : r < 7) (hz : xh s = nI 0) (hx : xr s = nI r) (hh : xh r = nI (h + 1)) (K : post (xd, xg, xN, xL, xF, xV, xC, (nI r), (-2), cr, ec, en, ft, bt, pr, op, a, b, xp, fi, xl, nx, xo, fn, fe, vn, vo, vv, (upd xst s 2), xf, xr, (upd xh r (nI h)), xc, fN, fX, fS, fT, fL, pv)) : wpX_deliver post (xd, xg, xN, xL, xF, xV, xC, (nI s), ph, cr, ec, en, ft, bt, pr, op, a, b, xp, fi, xl, nx, xo, fn, fe, vn, vo, vv, xst, xf, xr, xh, xc, fN, fX, fS, fT, fL, pv) := by
  have e := nc_ (n := s) (by omega)
  have w := vi_ (n := s) (N := 7) hs (by omega)
  exact ⟨w, br_t (by rw [e, hz]; decide) (br_f (nI_ne0 (by omega) (by omega)) ⟨w, nm_r (e' := upd xst s 2) (by rw [e]) (x_hb hs hr hx hh K)⟩)⟩
theorem x_delM (hz : xh 0 = nI 0) (K : post (xd, xg, xN, xL, xF, xV, xC, (nI 0), 0, cr, ec, en, ft, bt, pr, op, a, b, xp, fi, xl, nx, xo, fn, fe, vn, vo, vv, xst, xf, xr, xh, xc, fN, fX, fS, fT, fL, pv)) : wpX_deliver post (xd, xg, xN, xL, xF, xV, xC, (nI 0), ph, cr, ec, en, ft, bt, pr, op, a, b, xp, fi, xl, nx, xo, fn, fe, vn, vo, vv, xst, xf, xr, xh, xc, fN, fX, fS, fT, fL, pv) := by
  have w := vi_ (n := 0) (N := 7) (by omega) (by omega)
  exact ⟨w, br_t (by rw [nc_ (by omega), hz]; decide) (br_t rfl K)⟩
end
section
variable {op a b fi nx pa : Nat → Int32} {N : Nat} {oc pc E lv : Nat → Nat} {kd : Nat → Nat → Nat} {SC : Nat → Int32 → Prop}
variable {F C V : Nat} {D : Nat → Int32 → Prop} {K T : Nat → Nat → Nat} {fN fX fS fT : Nat → Int32} {fL : Nat → Int64} {yl ya ye : Nat → Int32} {yk : Nat → Int64} {P H : Nat → Nat} {dep : Nat} {xh xc yt yc fn fe gn ge vn vo : Nat → Int32} {vv : Nat → Int64} {wn wu : Nat → Int32} {wv : Nat → Int64} {xst xf xr yst yf yr : Nat → Int32} {Q : Nat → Nat} {k s h : Nat}
variable {fu : Nat} {xN xL : Int32} {xp xl xo : Nat → Int32} {yN yi yo : Int32} {yp : Nat → Int32}
variable {ph ec en ft : Int32} {cr gv gt : Int64} {q w φ : Nat} {pv ou : Nat → Int64} {hs : Int32}
theorem sA_if1 {n i e : Nat} (ht : (ct_all op a b fi nx pa N oc pc E lv kd SC)) (hyp : ∀ n, n < N → xp n = nI (pc n) ∧ yp n = nI (pc n)) (h1 : (cc_C N oc pc E lv kd a b SC F C V D K T fN fX fS fT fL yl ya ye yk P H dep xh xc yt yc fn fe gn ge vn vo vv wn wu wv xst xf xr yst yf yr Q k s h)) (g1 : n < N) (g2 : oc n < 19) (g3 : i < pc n) (g4 : e ≤ V) (g5 : fN (s * 128 + h) = nI n) (g6 : fT (s * 128 + h) = nI (ct_tk (oc n) i)) (g7 : fS (s * 128 + h) = nI e) (g8 : yl (112 * s + (h + K s (h + 1) - cz_ s)) = nI n) (g9 : ya (112 * s + (h + K s (h + 1) - cz_ s)) = nI i) (g10 : ye (112 * s + (h + K s (h + 1) - cz_ s)) = nI e - 1) (g11 : ∀ c, ct_in oc a b SC n i c → D e c) (g12 : cf_S F C (oc n) i (fun q => fL ((s * 128 + h) * 4 + q)) (fun q => yk (3 * (112 * s + (h + K s (h + 1) - cz_ s)) + q))) (g13 : K s (h + 1) = K s h + (if oc n = 10 then 1 else 0)) (g14 : cz_ s ≤ K s (h + 1)) (g15 : h + 1 + K s (h + 1) ≤ 16 * K s (h + 1) + lv n + cz_ s) (hn : fX (s * 128 + h) = ct_nx pc kd n (i + 1)) (hT : T s h + 4 * (E n - E (kd n i)) + 3 ≤ T s (h + 1)) (b1 : K s (h + 1) ≤ dep) (b2 : T s (h + 1) + 2 ≤ P s) (b3 : xh s = nI (h + 1)) (b4 : yt s = nI (h + 1 + K s (h + 1) - cz_ s)) (b5 : xc s = nI (K s (h + 1))) (b6 : yc s = nI (K s (h + 1))) (hk : (cr_K φ fu q w F C P pv ou)) (hv : cv_R F C cr gt) (hd : oc n = 5) (h0 : 0 < i) : ∃ u2 v2 kx, xs_ (kx + 1) ((nI dep), (nI fu), xN, xL, (nI F), (nI V), (nI C), (nI s), (-2), cr, ec, en, ft, (nI q), (nI w), op, a, b, xp, fi, xl, nx, xo, fn, fe, vn, vo, vv, xst, xf, xr, xh, xc, fN, fX, fS, fT, fL, pv) u2 ∧ (∀ post : SY → Prop, post v2 → wpY_deliver post ((nI dep), (nI fu), yN, yi, yo, (nI V), (nI F), (nI C), (nI s), ft, (nI q), 0, 0, (-1), (nI w), 1, 0, gv, gt, op, a, b, pa, fi, nx, yp, wn, wu, gn, ge, wv, yl, ya, ye, yk, yt, yc, yst, yf, yr, ou) gt) ∧ cr_T op a b fi nx pa N oc pc E lv kd SC dep fu xN xL xp xl xo yN yi yo yp φ (kx + 1) u2 v2 := by
  have h7 := (cc_s h1).2
  have h6 := cc_dep h1
  have hKK : K s h ≤ K s (h + 1) := by omega
  have hh := cf_h ht (cc_FR h1) (by omega)
  have hN := ht.2.1
  have hl := (ht.2.2.2.2 n g1).2.2.2.1.2 (by omega)
  have hzl := cz_le s
  have hw : h + K s (h + 1) - cz_ s < 112 := by omega
  have o_ : op n = nI (oc n) := ct_op ht g1 rfl
  have b4' : yt s = nI (h + K s (h + 1) - cz_ s + 1) := by rw [b4]; exact congrArg nI (by omega)
  have hpn := (ht.2.2.2.2 n g1).1.2.2.2
  have yp_ := (hyp n g1).2
  have hEn := ct_E ht g1
  have hkd := (ht.2.2.2.2 n g1).2.2.2.2.2.1
  have h10 : oc n ≠ 10 := by omega
  have hK0 : K s (h + 1) = K s h := by rw [g13, if_neg h10]; rfl
  have b4p : yt s = nI (h + K s h - cz_ s + 1) := by rw [← hK0]; exact b4'
  have g8p : yl (112 * s + (h + K s h - cz_ s)) = nI n := by rw [← hK0]; exact g8
  have b1p : K s h ≤ dep := by omega
  have b5p : xc s = nI (K s h) := by rw [← hK0]; exact b5
  have b6p : yc s = nI (K s h) := by rw [← hK0]; exact b6
  have hwp : h + K s h - cz_ s < 112 := by omega
  have hsh : 1 ≤ s → 1 ≤ h := fun hs1 => by
    have z1 := cz_1 hs1
    rcases Nat.eq_zero_or_pos h with hz | hz
    · subst hz
      have := h1.2.1 s
      omega
    · exact hz
  have g6' : fT (s * 128 + h) = nI 1 := by rw [g6, hd]; unfold ct_tk; rw [if_pos rfl, if_neg (by omega)]
  have h2 : (cc_C N oc pc E lv kd a b SC F C V D K T fN (upd fX (s * 128 + h) (-1)) fS (upd fT (s * 128 + h) (nI (1 + 1))) (vp_updL fL ((s * 128 + h) * 4) cr) yl ya ye yk P H dep xh xc yt yc fn fe gn ge vn vo vv wn wu wv xst xf xr yst yf yr Q k s h) := cc_fr ht h1 (by omega) (by omega) (fun _ _ _ => rfl) (fun _ _ _ => rfl) ca_r (ca_u ca_r (by omega) (by omega)) ca_r (ca_u ca_r (by omega) (by omega)) (ca_l ca_r (by omega) (by omega)) ca_r ca_r ca_r ca_r ca_r ca_r ca_r ca_r ca_r
  have tY : ∀ post : SY → Prop, wpY_finish post ((nI dep), (nI fu), yN, yi, yo, (nI V), (nI F), (nI C), (nI s), ft, (nI q), 0, 0, (-1), (nI w), 1, 0, gv, gt, op, a, b, pa, fi, nx, yp, wn, wu, gn, ge, wv, yl, ya, ye, yk, yt, yc, yst, yf, yr, ou) gt → wpY_deliver post ((nI dep), (nI fu), yN, yi, yo, (nI V), (nI F), (nI C), (nI s), ft, (nI q), 0, 0, (-1), (nI w), 1, 0, gv, gt, op, a, b, pa, fi, nx, yp, wn, wu, gn, ge, wv, yl, ya, ye, yk, yt, yc, yst, yf, yr, ou) gt := by
    intro post K
    by_cases hz : i + 1 = pc n
    · exact y_5c1 h7 b4' hw g8 (by omega) g9 yp_ (by omega) (by omega) o_ hz hd h0 K
    · exact y_5c0 h7 b4' hw g8 (by omega) g9 yp_ (by omega) (by omega) o_ hz hd h0 K
  refine ⟨_, _, 1, xs_t (xs_d (fun post K => x_del h7 (by omega) b3 (x_take5 h7 (by omega) b3 g5 (by omega) o_ (by omega) g6' hd (x_if1 (by omega) (by omega) (by omega) K)))) (xs_a (fun post K => x_adv1 h7 b3 (by omega) pk_us (x_c5 h7 (by omega) g5 (by omega) (o_.trans (by rw [hd]; rfl)) (x_finish h7 b3 K)))), fun post K => tY post (y_finish h7 b4p hwp g8p (by omega) o_ (by omega) h10 K), ?_⟩
  rw [pk_uLs]
  exact cr_pop ht h2 b1p b5p b6p hsh hk (by omega) hv
theorem sA_seqn {n i e : Nat} (ht : (ct_all op a b fi nx pa N oc pc E lv kd SC)) (hyp : ∀ n, n < N → xp n = nI (pc n) ∧ yp n = nI (pc n)) (h1 : (cc_C N oc pc E lv kd a b SC F C V D K T fN fX fS fT fL yl ya ye yk P H dep xh xc yt yc fn fe gn ge vn vo vv wn wu wv xst xf xr yst yf yr Q k s h)) (g1 : n < N) (g2 : oc n < 19) (g3 : i < pc n) (g4 : e ≤ V) (g5 : fN (s * 128 + h) = nI n) (g6 : fT (s * 128 + h) = nI (ct_tk (oc n) i)) (g7 : fS (s * 128 + h) = nI e) (g8 : yl (112 * s + (h + K s (h + 1) - cz_ s)) = nI n) (g9 : ya (112 * s + (h + K s (h + 1) - cz_ s)) = nI i) (g10 : ye (112 * s + (h + K s (h + 1) - cz_ s)) = nI e - 1) (g11 : ∀ c, ct_in oc a b SC n i c → D e c) (g12 : cf_S F C (oc n) i (fun q => fL ((s * 128 + h) * 4 + q)) (fun q => yk (3 * (112 * s + (h + K s (h + 1) - cz_ s)) + q))) (g13 : K s (h + 1) = K s h + (if oc n = 10 then 1 else 0)) (g14 : cz_ s ≤ K s (h + 1)) (g15 : h + 1 + K s (h + 1) ≤ 16 * K s (h + 1) + lv n + cz_ s) (hn : fX (s * 128 + h) = ct_nx pc kd n (i + 1)) (hT : T s h + 4 * (E n - E (kd n i)) + 3 ≤ T s (h + 1)) (b1 : K s (h + 1) ≤ dep) (b2 : T s (h + 1) + 2 ≤ P s) (b3 : xh s = nI (h + 1)) (b4 : yt s = nI (h + 1 + K s (h + 1) - cz_ s)) (b5 : xc s = nI (K s (h + 1))) (b6 : yc s = nI (K s (h + 1))) (hk : (cr_K φ fu q w F C P pv ou)) (hv : cv_R F C cr gt) (hd : oc n = 6 ∨ oc n = 10) (hlt : i + 1 < pc n) : ∃ u2 v2 kx, xs_ (kx + 1) ((nI dep), (nI fu), xN, xL, (nI F), (nI V), (nI C), (nI s), (-2), cr, ec, en, ft, (nI q), (nI w), op, a, b, xp, fi, xl, nx, xo, fn, fe, vn, vo, vv, xst, xf, xr, xh, xc, fN, fX, fS, fT, fL, pv) u2 ∧ (∀ post : SY → Prop, post v2 → wpY_deliver post ((nI dep), (nI fu), yN, yi, yo, (nI V), (nI F), (nI C), (nI s), ft, (nI q), 0, 0, (-1), (nI w), 1, 0, gv, gt, op, a, b, pa, fi, nx, yp, wn, wu, gn, ge, wv, yl, ya, ye, yk, yt, yc, yst, yf, yr, ou) gt) ∧ cr_T op a b fi nx pa N oc pc E lv kd SC dep fu xN xL xp xl xo yN yi yo yp φ (kx + 1) u2 v2 := by
  have h7 := (cc_s h1).2
  have h6 := cc_dep h1
  have hKK : K s h ≤ K s (h + 1) := by omega
  have hh := cf_h ht (cc_FR h1) (by omega)
  have hN := ht.2.1
  have hl := (ht.2.2.2.2 n g1).2.2.2.1.2 (by omega)
  have hzl := cz_le s
  have hw : h + K s (h + 1) - cz_ s < 112 := by omega
  have o_ : op n = nI (oc n) := ct_op ht g1 rfl
  have b4' : yt s = nI (h + K s (h + 1) - cz_ s + 1) := by rw [b4]; exact congrArg nI (by omega)
  have hpn := (ht.2.2.2.2 n g1).1.2.2.2
  have yp_ := (hyp n g1).2
  have hEn := ct_E ht g1
  have hkd := (ht.2.2.2.2 n g1).2.2.2.2.2.1
  have h5 : ct_tk (oc n) i = i := ct_tkn (by omega)
  have k1 := hkd i g3
  have k2 := hkd (i + 1) hlt
  have k5 := (k1.2.2.2.2.1 hlt).2.1
  have k4 := ((ht.2.2.2.2 n g1).2.2.2.2.2.2 trivial).2.2.2 (i + 1) hlt
  have k3 := ct_E ht k2.2.1
  rw [h5] at g6
  obtain ⟨φ', hφ, hk'⟩ := cr_P (P' := ch_ P s (T s h + 4 * (E n - kd n (i + 1)) + 3)) (d := 1) hk h7 rfl (by omega)
  have h2 : (cc_C N oc pc E lv kd a b SC F C V D K T fN fX fS (upd fT (s * 128 + h) (nI (i + 1))) (vp_updL fL ((s * 128 + h) * 4) cr) yl (upd ya (112 * s + (h + K s (h + 1) - cz_ s)) (nI (i + 1))) ye yk P H dep xh xc yt yc fn fe gn ge vn vo vv wn wu wv xst xf xr yst yf yr Q k s h) := cc_fr ht h1 (by omega) (by omega) (fun _ _ _ => rfl) (fun _ _ _ => rfl) ca_r ca_r ca_r (ca_u ca_r (by omega) (by omega)) (ca_l ca_r (by omega) (by omega)) ca_r (ca_u ca_r (by omega) (by omega)) ca_r ca_r ca_r ca_r ca_r ca_r ca_r
  have tX : ∀ post : SX → Prop, post ((nI dep), (nI fu), xN, xL, (nI F), (nI V), (nI C), (nI s), (-1), cr, ec, en, ft, (nI q), (nI w), op, a, b, xp, fi, xl, nx, xo, fn, fe, vn, vo, vv, xst, xf, xr, xh, xc, fN, fX, fS, (upd fT (s * 128 + h) (nI (i + 1))), (vp_updL fL ((s * 128 + h) * 4) cr), pv) → wpX_take post ((nI dep), (nI fu), xN, xL, (nI F), (nI V), (nI C), (nI s), (-1), cr, ec, en, ft, (nI q), (nI w), op, a, b, xp, fi, xl, nx, xo, fn, fe, vn, vo, vv, xst, xf, xr, xh, xc, fN, fX, fS, fT, fL, pv) := by
    intro post K
    rcases hd with hd | hd
    · exact x_take6 h7 (by omega) b3 g5 (by omega) o_ (by omega) g6 hd K
    · exact x_take10 h7 (by omega) b3 g5 (by omega) o_ (by omega) g6 hd K
  have tY : ∀ post : SY → Prop, post ((nI dep), (nI fu), yN, yi, yo, (nI V), (nI F), (nI C), (nI s), ft, (nI q), 0, 0, (-1), (nI w), 1, 0, gv, gt, op, a, b, pa, fi, nx, yp, wn, wu, gn, ge, wv, yl, (upd ya (112 * s + (h + K s (h + 1) - cz_ s)) (nI (i + 1))), ye, yk, yt, yc, yst, yf, yr, ou) → wpY_deliver post ((nI dep), (nI fu), yN, yi, yo, (nI V), (nI F), (nI C), (nI s), ft, (nI q), 0, 0, (-1), (nI w), 1, 0, gv, gt, op, a, b, pa, fi, nx, yp, wn, wu, gn, ge, wv, yl, ya, ye, yk, yt, yc, yst, yf, yr, ou) gt := by
    intro post K
    rcases hd with hd | hd
    · exact y_6n h7 b4' hw g8 (by omega) g9 yp_ (by omega) (by omega) o_ (by omega) hd K
    · exact y_10n h7 b4' hw g8 (by omega) g9 yp_ (by omega) (by omega) o_ (by omega) hd K
  refine ⟨_, _, 0, xs_d (fun post K => x_del h7 (by omega) b3 (tX post K)), fun post K => tY post K, cr_rdy ht h2 g1 g2 hlt g4 g5 ?_ g7 g8 pk_us g10 (fun c hc => g11 c (ct_inS hc (by omega))) ?_ g13 g14 g15 (hn.trans (ct_nxl hlt)) b1 b3 b4 b5 b6 hφ hk'⟩
  · rw [pk_us, ct_tkn (by omega)]
  · exact ⟨fun h => by omega, fun h => by omega⟩
theorem sA_seql {n i e : Nat} (ht : (ct_all op a b fi nx pa N oc pc E lv kd SC)) (hyp : ∀ n, n < N → xp n = nI (pc n) ∧ yp n = nI (pc n)) (h1 : (cc_C N oc pc E lv kd a b SC F C V D K T fN fX fS fT fL yl ya ye yk P H dep xh xc yt yc fn fe gn ge vn vo vv wn wu wv xst xf xr yst yf yr Q k s h)) (g1 : n < N) (g2 : oc n < 19) (g3 : i < pc n) (g4 : e ≤ V) (g5 : fN (s * 128 + h) = nI n) (g6 : fT (s * 128 + h) = nI (ct_tk (oc n) i)) (g7 : fS (s * 128 + h) = nI e) (g8 : yl (112 * s + (h + K s (h + 1) - cz_ s)) = nI n) (g9 : ya (112 * s + (h + K s (h + 1) - cz_ s)) = nI i) (g10 : ye (112 * s + (h + K s (h + 1) - cz_ s)) = nI e - 1) (g11 : ∀ c, ct_in oc a b SC n i c → D e c) (g12 : cf_S F C (oc n) i (fun q => fL ((s * 128 + h) * 4 + q)) (fun q => yk (3 * (112 * s + (h + K s (h + 1) - cz_ s)) + q))) (g13 : K s (h + 1) = K s h + (if oc n = 10 then 1 else 0)) (g14 : cz_ s ≤ K s (h + 1)) (g15 : h + 1 + K s (h + 1) ≤ 16 * K s (h + 1) + lv n + cz_ s) (hn : fX (s * 128 + h) = ct_nx pc kd n (i + 1)) (hT : T s h + 4 * (E n - E (kd n i)) + 3 ≤ T s (h + 1)) (b1 : K s (h + 1) ≤ dep) (b2 : T s (h + 1) + 2 ≤ P s) (b3 : xh s = nI (h + 1)) (b4 : yt s = nI (h + 1 + K s (h + 1) - cz_ s)) (b5 : xc s = nI (K s (h + 1))) (b6 : yc s = nI (K s (h + 1))) (hk : (cr_K φ fu q w F C P pv ou)) (hv : cv_R F C cr gt) (hd : oc n = 6) (hlt : i + 1 = pc n) : ∃ u2 v2 kx, xs_ (kx + 1) ((nI dep), (nI fu), xN, xL, (nI F), (nI V), (nI C), (nI s), (-2), cr, ec, en, ft, (nI q), (nI w), op, a, b, xp, fi, xl, nx, xo, fn, fe, vn, vo, vv, xst, xf, xr, xh, xc, fN, fX, fS, fT, fL, pv) u2 ∧ (∀ post : SY → Prop, post v2 → wpY_deliver post ((nI dep), (nI fu), yN, yi, yo, (nI V), (nI F), (nI C), (nI s), ft, (nI q), 0, 0, (-1), (nI w), 1, 0, gv, gt, op, a, b, pa, fi, nx, yp, wn, wu, gn, ge, wv, yl, ya, ye, yk, yt, yc, yst, yf, yr, ou) gt) ∧ cr_T op a b fi nx pa N oc pc E lv kd SC dep fu xN xL xp xl xo yN yi yo yp φ (kx + 1) u2 v2 := by
  have h7 := (cc_s h1).2
  have h6 := cc_dep h1
  have hKK : K s h ≤ K s (h + 1) := by omega
  have hh := cf_h ht (cc_FR h1) (by omega)
  have hN := ht.2.1
  have hl := (ht.2.2.2.2 n g1).2.2.2.1.2 (by omega)
  have hzl := cz_le s
  have hw : h + K s (h + 1) - cz_ s < 112 := by omega
  have o_ : op n = nI (oc n) := ct_op ht g1 rfl
  have b4' : yt s = nI (h + K s (h + 1) - cz_ s + 1) := by rw [b4]; exact congrArg nI (by omega)
  have hpn := (ht.2.2.2.2 n g1).1.2.2.2
  have yp_ := (hyp n g1).2
  have hEn := ct_E ht g1
  have hkd := (ht.2.2.2.2 n g1).2.2.2.2.2.1
  have h10 : oc n ≠ 10 := by omega
  have hK0 : K s (h + 1) = K s h := by rw [g13, if_neg h10]; rfl
  have b4p : yt s = nI (h + K s h - cz_ s + 1) := by rw [← hK0]; exact b4'
  have g8p : yl (112 * s + (h + K s h - cz_ s)) = nI n := by rw [← hK0]; exact g8
  have b1p : K s h ≤ dep := by omega
  have b5p : xc s = nI (K s h) := by rw [← hK0]; exact b5
  have b6p : yc s = nI (K s h) := by rw [← hK0]; exact b6
  have hwp : h + K s h - cz_ s < 112 := by omega
  have hsh : 1 ≤ s → 1 ≤ h := fun hs1 => by
    have z1 := cz_1 hs1
    rcases Nat.eq_zero_or_pos h with hz | hz
    · subst hz
      have := h1.2.1 s
      omega
    · exact hz
  have h5 : ct_tk (oc n) i = i := ct_tkn (by omega)
  rw [h5] at g6
  have h2 : (cc_C N oc pc E lv kd a b SC F C V D K T fN fX fS (upd fT (s * 128 + h) (nI (i + 1))) (vp_updL fL ((s * 128 + h) * 4) cr) yl (upd ya (112 * s + (h + K s (h + 1) - cz_ s)) (nI (i + 1))) ye yk P H dep xh xc yt yc fn fe gn ge vn vo vv wn wu wv xst xf xr yst yf yr Q k s h) := cc_fr ht h1 (by omega) (by omega) (fun _ _ _ => rfl) (fun _ _ _ => rfl) ca_r ca_r ca_r (ca_u ca_r (by omega) (by omega)) (ca_l ca_r (by omega) (by omega)) ca_r (ca_u ca_r (by omega) (by omega)) ca_r ca_r ca_r ca_r ca_r ca_r ca_r
  refine ⟨_, _, 1, xs_t (xs_d (fun post K => x_del h7 (by omega) b3 (x_take6 h7 (by omega) b3 g5 (by omega) o_ (by omega) g6 hd K))) (xs_a (fun post K => x_adv1 h7 b3 (by omega) (hn.trans (ct_nxe (by omega))) (x_con6 h7 b3 (by omega) g5 (by omega) (o_.trans (by rw [hd]; rfl)) K))), fun post K => y_6l h7 b4' hw g8 (by omega) g9 yp_ (by omega) (by omega) o_ hlt hd (y_finish h7 b4p hwp g8p (by omega) o_ (by omega) h10 K), ?_⟩
  rw [pk_uLs]
  exact cr_pop ht h2 b1p b5p b6p hsh hk (by omega) hv
theorem sA_while {n i e : Nat} (ht : (ct_all op a b fi nx pa N oc pc E lv kd SC)) (hyp : ∀ n, n < N → xp n = nI (pc n) ∧ yp n = nI (pc n)) (h1 : (cc_C N oc pc E lv kd a b SC F C V D K T fN fX fS fT fL yl ya ye yk P H dep xh xc yt yc fn fe gn ge vn vo vv wn wu wv xst xf xr yst yf yr Q k s h)) (g1 : n < N) (g2 : oc n < 19) (g3 : i < pc n) (g4 : e ≤ V) (g5 : fN (s * 128 + h) = nI n) (g6 : fT (s * 128 + h) = nI (ct_tk (oc n) i)) (g7 : fS (s * 128 + h) = nI e) (g8 : yl (112 * s + (h + K s (h + 1) - cz_ s)) = nI n) (g9 : ya (112 * s + (h + K s (h + 1) - cz_ s)) = nI i) (g10 : ye (112 * s + (h + K s (h + 1) - cz_ s)) = nI e - 1) (g11 : ∀ c, ct_in oc a b SC n i c → D e c) (g12 : cf_S F C (oc n) i (fun q => fL ((s * 128 + h) * 4 + q)) (fun q => yk (3 * (112 * s + (h + K s (h + 1) - cz_ s)) + q))) (g13 : K s (h + 1) = K s h + (if oc n = 10 then 1 else 0)) (g14 : cz_ s ≤ K s (h + 1)) (g15 : h + 1 + K s (h + 1) ≤ 16 * K s (h + 1) + lv n + cz_ s) (hn : fX (s * 128 + h) = ct_nx pc kd n (i + 1)) (hT : T s h + 4 * (E n - E (kd n i)) + 3 ≤ T s (h + 1)) (b1 : K s (h + 1) ≤ dep) (b2 : T s (h + 1) + 2 ≤ P s) (b3 : xh s = nI (h + 1)) (b4 : yt s = nI (h + 1 + K s (h + 1) - cz_ s)) (b5 : xc s = nI (K s (h + 1))) (b6 : yc s = nI (K s (h + 1))) (hk : (cr_K φ fu q w F C P pv ou)) (hv : cv_R F C cr gt) (hd : oc n = 7) : ∃ u2 v2 kx, xs_ (kx + 1) ((nI dep), (nI fu), xN, xL, (nI F), (nI V), (nI C), (nI s), (-2), cr, ec, en, ft, (nI q), (nI w), op, a, b, xp, fi, xl, nx, xo, fn, fe, vn, vo, vv, xst, xf, xr, xh, xc, fN, fX, fS, fT, fL, pv) u2 ∧ (∀ post : SY → Prop, post v2 → wpY_deliver post ((nI dep), (nI fu), yN, yi, yo, (nI V), (nI F), (nI C), (nI s), ft, (nI q), 0, 0, (-1), (nI w), 1, 0, gv, gt, op, a, b, pa, fi, nx, yp, wn, wu, gn, ge, wv, yl, ya, ye, yk, yt, yc, yst, yf, yr, ou) gt) ∧ cr_T op a b fi nx pa N oc pc E lv kd SC dep fu xN xL xp xl xo yN yi yo yp φ (kx + 1) u2 v2 := by
  have h7 := (cc_s h1).2
  have h6 := cc_dep h1
  have hKK : K s h ≤ K s (h + 1) := by omega
  have hh := cf_h ht (cc_FR h1) (by omega)
  have hN := ht.2.1
  have hl := (ht.2.2.2.2 n g1).2.2.2.1.2 (by omega)
  have hzl := cz_le s
  have hw : h + K s (h + 1) - cz_ s < 112 := by omega
  have o_ : op n = nI (oc n) := ct_op ht g1 rfl
  have b4' : yt s = nI (h + K s (h + 1) - cz_ s + 1) := by rw [b4]; exact congrArg nI (by omega)
  have hpn := (ht.2.2.2.2 n g1).1.2.2.2
  have yp_ := (hyp n g1).2
  have hEn := ct_E ht g1
  have hkd := (ht.2.2.2.2 n g1).2.2.2.2.2.1
  have h10 : oc n ≠ 10 := by omega
  have hK0 : K s (h + 1) = K s h := by rw [g13, if_neg h10]; rfl
  have b4p : yt s = nI (h + K s h - cz_ s + 1) := by rw [← hK0]; exact b4'
  have g8p : yl (112 * s + (h + K s h - cz_ s)) = nI n := by rw [← hK0]; exact g8
  have b1p : K s h ≤ dep := by omega
  have b5p : xc s = nI (K s h) := by rw [← hK0]; exact b5
  have b6p : yc s = nI (K s h) := by rw [← hK0]; exact b6
  have hwp : h + K s h - cz_ s < 112 := by omega
  have hsh : 1 ≤ s → 1 ≤ h := fun hs1 => by
    have z1 := cz_1 hs1
    rcases Nat.eq_zero_or_pos h with hz | hz
    · subst hz
      have := h1.2.1 s
      omega
    · exact hz
  have h5 : ct_tk (oc n) i = i := ct_tkn (by omega)
  rw [h5] at g6
  have hfu := hk.1.2.1
  obtain ⟨z, hz, hfX, hfY⟩ := xy_false h1.1.1 h1.1.2.1 hv
  by_cases hf : i = 0 ∧ z = 1
  · obtain ⟨rfl, rfl⟩ := hf
    have h2 : (cc_C N oc pc E lv kd a b SC F C V D K T fN fX fS (upd fT (s * 128 + h) (nI (0 + 1))) fL yl ya ye yk P H dep xh xc yt yc fn fe gn ge vn vo vv wn wu wv xst xf xr yst yf yr Q k s h) := cc_fr ht h1 (by omega) (by omega) (fun _ _ _ => rfl) (fun _ _ _ => rfl) ca_r ca_r ca_r (ca_u ca_r (by omega) (by omega)) ca_r ca_r ca_r ca_r ca_r ca_r ca_r ca_r ca_r ca_r
    have tY : ∀ post : SY → Prop, wpY_finish post ((nI dep), (nI fu), yN, yi, yo, (nI V), (nI F), (nI C), (nI s), ft, (nI q), 0, 0, (-1), (nI w), 1, 0, gv, gt, op, a, b, pa, fi, nx, yp, wn, wu, gn, ge, wv, yl, ya, ye, yk, yt, yc, yst, yf, yr, ou) 4294967296 → wpY_deliver post ((nI dep), (nI fu), yN, yi, yo, (nI V), (nI F), (nI C), (nI s), ft, (nI q), 0, 0, (-1), (nI w), 1, 0, gv, gt, op, a, b, pa, fi, nx, yp, wn, wu, gn, ge, wv, yl, ya, ye, yk, yt, yc, yst, yf, yr, ou) gt := by
      intro post K
      by_cases hz : 0 + 1 = pc n
      · exact y_7a1 h7 b4' hw g8 (by omega) g9 yp_ (by omega) (by omega) o_ hz hd rfl (fun q hq => hfY q _ hq) K
      · exact y_7a0 h7 b4' hw g8 (by omega) g9 yp_ (by omega) (by omega) o_ hz hd rfl (fun q hq => hfY q _ hq) K
    exact ⟨_, _, 0, xs_d (fun post K => x_del h7 (by omega) b3 (x_take7c h7 (by omega) b3 g5 (by omega) o_ (by omega) g6 hd rfl hfX K)), fun post K => tY post (y_finish h7 b4p hwp g8p (by omega) o_ (by omega) h10 K), cr_pop ht h2 b1p b5p b6p hsh hk (by omega) cv_nil⟩
  · have hfz : i = 0 → z = 0 := fun h => by
      rcases hz with hz | hz
      · exact hz
      · exact absurd ⟨h, hz⟩ hf
    have tX : ∀ post : SX → Prop, post ((nI dep), (nI fu), xN, xL, (nI F), (nI V), (nI C), (nI s), (-1), cr, ec, en, ft, (nI q), (nI w), op, a, b, xp, fi, xl, nx, xo, fn, fe, vn, vo, vv, xst, xf, xr, xh, xc, fN, fX, fS, (upd fT (s * 128 + h) (nI (i + 1))), fL, pv) → wpX_take post ((nI dep), (nI fu), xN, xL, (nI F), (nI V), (nI C), (nI s), (-1), cr, ec, en, ft, (nI q), (nI w), op, a, b, xp, fi, xl, nx, xo, fn, fe, vn, vo, vv, xst, xf, xr, xh, xc, fN, fX, fS, fT, fL, pv) := by
      intro post K
      by_cases h0 : i = 0
      · have := hfz h0
        subst this
        exact x_take7b h7 (by omega) b3 g5 (by omega) o_ (by omega) g6 hd h0 hfX K
      · exact x_take7a h7 (by omega) b3 g5 (by omega) o_ (by omega) g6 hd h0 (by omega) K
    rcases Nat.lt_or_ge (i + 1) (pc n) with hlt | hlt
    · have k1 := hkd i g3
      have k2 := hkd (i + 1) hlt
      have k5 := (k1.2.2.2.2.1 hlt).2.1
      have k4 := ((ht.2.2.2.2 n g1).2.2.2.2.2.2 trivial).2.2.2 (i + 1) hlt
      have k3 := ct_E ht k2.2.1
      obtain ⟨φ', hφ, hk'⟩ := cr_P (P' := ch_ P s (T s h + 4 * (E n - kd n (i + 1)) + 3)) (d := 1) hk h7 rfl (by omega)
      have h2 : (cc_C N oc pc E lv kd a b SC F C V D K T fN fX fS (upd fT (s * 128 + h) (nI (i + 1))) fL yl (upd ya (112 * s + (h + K s (h + 1) - cz_ s)) (nI (i + 1))) ye yk P H dep xh xc yt yc fn fe gn ge vn vo vv wn wu wv xst xf xr yst yf yr Q k s h) := cc_fr ht h1 (by omega) (by omega) (fun _ _ _ => rfl) (fun _ _ _ => rfl) ca_r ca_r ca_r (ca_u ca_r (by omega) (by omega)) ca_r ca_r (ca_u ca_r (by omega) (by omega)) ca_r ca_r ca_r ca_r ca_r ca_r ca_r
      have tY : ∀ post : SY → Prop, post ((nI dep), (nI fu), yN, yi, yo, (nI V), (nI F), (nI C), (nI s), ft, (nI q), 0, 0, (-1), (nI w), 1, 0, gv, gt, op, a, b, pa, fi, nx, yp, wn, wu, gn, ge, wv, yl, (upd ya (112 * s + (h + K s (h + 1) - cz_ s)) (nI (i + 1))), ye, yk, yt, yc, yst, yf, yr, ou) → wpY_deliver post ((nI dep), (nI fu), yN, yi, yo, (nI V), (nI F), (nI C), (nI s), ft, (nI q), 0, 0, (-1), (nI w), 1, 0, gv, gt, op, a, b, pa, fi, nx, yp, wn, wu, gn, ge, wv, yl, ya, ye, yk, yt, yc, yst, yf, yr, ou) gt := by
        intro post K
        by_cases h0 : i = 0
        · have := hfz h0
          subst this
          exact y_7n0 h7 b4' hw g8 (by omega) g9 yp_ (by omega) (by omega) o_ (by omega) hd h0 (fun q hq => hfY q _ hq) K
        · exact y_7n1 h7 b4' hw g8 (by omega) g9 yp_ (by omega) (by omega) o_ (by omega) hd (by omega) K
      refine ⟨_, _, 0, xs_d (fun post K => x_del h7 (by omega) b3 (tX post K)), fun post K => tY post K, cr_rdy ht h2 g1 g2 hlt g4 g5 ?_ g7 g8 pk_us g10 (fun c hc => g11 c (ct_inS hc (by omega))) ?_ g13 g14 g15 (hn.trans (ct_nxl hlt)) b1 b3 b4 b5 b6 hφ hk'⟩
      · rw [pk_us, ct_tkn (by omega)]
      · exact ⟨fun h => by omega, fun h => by omega⟩
    · have hx := hn.trans (ct_nxe (kd := kd) (show ¬ i + 1 < pc n by omega))
      have o7 : op n = 7 := o_.trans (by rw [hd]; rfl)
      have k0 := hkd 0 (by omega)
      have hf0 : fi n = nI (kd n 0) := (ht.2.2.2.2 n g1).2.2.2.2.1.2 (by omega)
      rcases Nat.lt_or_ge q fu with hq | hq
      · obtain ⟨φ', hφ, hk'⟩ := cr_beat (P' := ch_ P s (T s h + 4 * (E n - kd n 0) + 3)) (d := 2) hk h7 hq rfl (by omega)
        have tY : ∀ post : SY → Prop, post ((nI dep), (nI fu), yN, yi, yo, (nI V), (nI F), (nI C), (nI s), ft, (nI (q + 1)), 0, 0, (-1), (nI w), 1, 0, gv, gt, op, a, b, pa, fi, nx, yp, wn, wu, gn, ge, wv, yl, (upd ya (112 * s + (h + K s (h + 1) - cz_ s)) 0), ye, yk, yt, yc, yst, yf, yr, ou) → wpY_deliver post ((nI dep), (nI fu), yN, yi, yo, (nI V), (nI F), (nI C), (nI s), ft, (nI q), 0, 0, (-1), (nI w), 1, 0, gv, gt, op, a, b, pa, fi, nx, yp, wn, wu, gn, ge, wv, yl, ya, ye, yk, yt, yc, yst, yf, yr, ou) gt := by
          intro post K
          by_cases h0 : i = 0
          · have := hfz h0
            subst this
            exact y_7l01 hq (by omega) h7 b4' hw g8 (by omega) g9 yp_ (by omega) (by omega) o_ (by omega) hd h0 (fun q hq => hfY q _ hq) K
          · exact y_7l11 hq (by omega) h7 b4' hw g8 (by omega) g9 yp_ (by omega) (by omega) o_ (by omega) hd (by omega) K
        have h2 : (cc_C N oc pc E lv kd a b SC F C V D K T fN (upd fX (s * 128 + h) (fi n)) fS (upd (upd fT (s * 128 + h) (nI (i + 1))) (s * 128 + h) 0) fL yl (upd ya (112 * s + (h + K s (h + 1) - cz_ s)) 0) ye yk P H dep xh xc yt yc fn fe gn ge vn vo vv wn wu wv xst xf xr yst yf yr Q k s h) := cc_fr ht h1 (by omega) (by omega) (fun _ _ _ => rfl) (fun _ _ _ => rfl) ca_r (ca_u ca_r (by omega) (by omega)) ca_r (ca_u (ca_u ca_r (by omega) (by omega)) (by omega) (by omega)) ca_r ca_r (ca_u ca_r (by omega) (by omega)) ca_r ca_r ca_r ca_r ca_r ca_r ca_r
        refine ⟨_, _, 1, xs_t (xs_d (fun post K => x_del h7 (by omega) b3 (tX post K))) (xs_a (fun post K => x_adv1 h7 b3 (by omega) hx (x_con7 h7 (by omega) g5 (by omega) o7 (x_round1 h7 (by omega) g5 (by omega) hq (by omega) K)))), fun post K => tY post K, cr_rdy (i := 0) ht h2 g1 g2 (by omega) g4 g5 ?_ g7 g8 pk_us g10 (fun c hc => g11 c (ct_inS hc (by omega))) ?_ g13 g14 g15 (pk_us.trans hf0) b1 b3 b4 b5 b6 hφ hk'⟩
        · rw [pk_us, ct_tkn (by omega)]; rfl
        · exact ⟨fun h => by omega, fun h => by omega⟩
      · obtain rfl : q = fu := by have := hk.1.1; omega
        have hφ2 : 2 ≤ φ := by have h3 := sm_le (f := P) 7 h7; have h4 := hk.1.2.2.1; omega
        have tY : ∀ post : SY → Prop, post ((nI dep), (nI q), yN, yi, yo, (nI V), (nI F), (nI C), (nI s), ft, (nI q), 2, 0, (-1), (nI w), 0, 0, 4294967296, gt, op, a, b, pa, fi, nx, yp, wn, wu, gn, ge, wv, yl, ya, ye, yk, yt, yc, yst, yf, yr, ou) → wpY_deliver post ((nI dep), (nI q), yN, yi, yo, (nI V), (nI F), (nI C), (nI s), ft, (nI q), 0, 0, (-1), (nI w), 1, 0, gv, gt, op, a, b, pa, fi, nx, yp, wn, wu, gn, ge, wv, yl, ya, ye, yk, yt, yc, yst, yf, yr, ou) gt := by
          intro post K
          by_cases h0 : i = 0
          · have := hfz h0
            subst this
            exact y_7l00 h7 b4' hw g8 (by omega) g9 yp_ (by omega) (by omega) o_ (by omega) hd h0 (fun q hq => hfY q _ hq) K
          · exact y_7l10 h7 b4' hw g8 (by omega) g9 yp_ (by omega) (by omega) o_ (by omega) hd (by omega) K
        exact ⟨_, _, 1, xs_t (xs_d (fun post K => x_del h7 (by omega) b3 (tX post K))) (xs_a (fun post K => x_adv1 h7 b3 (by omega) hx (x_con7 h7 (by omega) g5 (by omega) o7 (x_round0 (by omega) K)))), fun post K => tY post K, cr_fuel h1.1.1 h1.1.2.1 hk hφ2⟩
end
end
section
section
variable {op a b fi nx pa : Nat → Int32} {N : Nat} {oc pc E lv : Nat → Nat} {kd : Nat → Nat → Nat} {SC : Nat → Int32 → Prop}
variable {F C V : Nat} {D : Nat → Int32 → Prop} {K T : Nat → Nat → Nat} {fN fX fS fT : Nat → Int32} {fL : Nat → Int64} {yl ya ye : Nat → Int32} {yk : Nat → Int64} {P H : Nat → Nat} {dep : Nat} {xh xc yt yc fn fe gn ge vn vo : Nat → Int32} {vv : Nat → Int64} {wn wu : Nat → Int32} {wv : Nat → Int64} {xst xf xr yst yf yr : Nat → Int32} {Q : Nat → Nat} {k s h : Nat}
variable {fu : Nat} {xN xL : Int32} {xp xl xo : Nat → Int32} {yN yi yo : Int32} {yp : Nat → Int32}
variable {ph ec en ft : Int32} {cr gv gt : Int64} {q w φ : Nat} {pv ou : Nat → Int64} {hs : Int32}
/-- a new variable before the scope of the top frame -/
theorem cc_var {fT' ya' fS' ye' : Nat → Int32} {m : Int32} {e : Nat} {x y : Int64} (ht : (ct_all op a b fi nx pa N oc pc E lv kd SC)) (h1 : (cc_C N oc pc E lv kd a b SC F C V D K T fN fX fS fT fL yl ya ye yk P H dep xh xc yt yc fn fe gn ge vn vo vv wn wu wv xst xf xr yst yf yr Q k s h)) (hK : K s h ≤ 6) (hh : h ≤ 128) (hV : V < 120) (he : e ≤ V) (hv : cv_R F C x y)
    (aS : ca_ (s * 128 + h) (s * 128 + 128) fS fS') (aT : ca_ (s * 128 + h) (s * 128 + 128) fT fT') (ba : ca_ (112 * s + (h + K s h - cz_ s)) (112 * s + 112) ya ya') (be : ca_ (112 * s + (h + K s h - cz_ s)) (112 * s + 112) ye ye') :
    (cc_C N oc pc E lv kd a b SC F C (V + 1) (cd_D D V e m) K T fN fX fS' fT' fL yl ya' ye' yk P H dep xh xc yt yc fn fe gn ge (upd vn (V + 1) m) (upd vo (V + 1) (nI e)) (vp_updL vv (V + 1) x) (upd wn V m) (upd wu V (nI e - 1)) (vp_updL wv V y) xst xf xr yst yf yr Q k s h) := by
  have g := h1
  obtain ⟨⟨q1, q2, q3, q4, q5, q6⟩, gK, gV, gF, _⟩ := g
  exact cc_go ht h1 hK hh (Nat.le_refl _) q1 (Nat.le_succ _) (by omega) cd_D_up (cd_V_new gV he hv) (cd_F_V gF (Nat.le_succ _) cd_D_up) (fun _ _ => rfl) (fun _ _ _ => rfl) (fun _ _ _ => rfl) ca_r ca_r aS aT ca_r ca_r ba be ca_r ca_r ca_r ca_r ca_r ca_r ca_r
theorem sA_loc0 {n i e : Nat} (ht : (ct_all op a b fi nx pa N oc pc E lv kd SC)) (hyp : ∀ n, n < N → xp n = nI (pc n) ∧ yp n = nI (pc n)) (h1 : (cc_C N oc pc E lv kd a b SC F C V D K T fN fX fS fT fL yl ya ye yk P H dep xh xc yt yc fn fe gn ge vn vo vv wn wu wv xst xf xr yst yf yr Q k s h)) (g1 : n < N) (g2 : oc n < 19) (g3 : i < pc n) (g4 : e ≤ V) (g5 : fN (s * 128 + h) = nI n) (g6 : fT (s * 128 + h) = nI (ct_tk (oc n) i)) (g7 : fS (s * 128 + h) = nI e) (g8 : yl (112 * s + (h + K s (h + 1) - cz_ s)) = nI n) (g9 : ya (112 * s + (h + K s (h + 1) - cz_ s)) = nI i) (g10 : ye (112 * s + (h + K s (h + 1) - cz_ s)) = nI e - 1) (g11 : ∀ c, ct_in oc a b SC n i c → D e c) (g12 : cf_S F C (oc n) i (fun q => fL ((s * 128 + h) * 4 + q)) (fun q => yk (3 * (112 * s + (h + K s (h + 1) - cz_ s)) + q))) (g13 : K s (h + 1) = K s h + (if oc n = 10 then 1 else 0)) (g14 : cz_ s ≤ K s (h + 1)) (g15 : h + 1 + K s (h + 1) ≤ 16 * K s (h + 1) + lv n + cz_ s) (hn : fX (s * 128 + h) = ct_nx pc kd n (i + 1)) (hT : T s h + 4 * (E n - E (kd n i)) + 3 ≤ T s (h + 1)) (b1 : K s (h + 1) ≤ dep) (b2 : T s (h + 1) + 2 ≤ P s) (b3 : xh s = nI (h + 1)) (b4 : yt s = nI (h + 1 + K s (h + 1) - cz_ s)) (b5 : xc s = nI (K s (h + 1))) (b6 : yc s = nI (K s (h + 1))) (hk : (cr_K φ fu q w F C P pv ou)) (hv : cv_R F C cr gt) (hd : oc n = 8) (h0 : i = 0) : ∃ u2 v2 kx, xs_ (kx + 1) ((nI dep), (nI fu), xN, xL, (nI F), (nI V), (nI C), (nI s), (-2), cr, ec, en, ft, (nI q), (nI w), op, a, b, xp, fi, xl, nx, xo, fn, fe, vn, vo, vv, xst, xf, xr, xh, xc, fN, fX, fS, fT, fL, pv) u2 ∧ (∀ post : SY → Prop, post v2 → wpY_deliver post ((nI dep), (nI fu), yN, yi, yo, (nI V), (nI F), (nI C), (nI s), ft, (nI q), 0, 0, (-1), (nI w), 1, 0, gv, gt, op, a, b, pa, fi, nx, yp, wn, wu, gn, ge, wv, yl, ya, ye, yk, yt, yc, yst, yf, yr, ou) gt) ∧ cr_T op a b fi nx pa N oc pc E lv kd SC dep fu xN xL xp xl xo yN yi yo yp φ (kx + 1) u2 v2 := by
  have h7 := (cc_s h1).2
  have h6 := cc_dep h1
  have hKK : K s h ≤ K s (h + 1) := by omega
  have hh := cf_h ht (cc_FR h1) (by omega)
  have hN := ht.2.1
  have hl := (ht.2.2.2.2 n g1).2.2.2.1.2 (by omega)
  have hzl := cz_le s
  have hw : h + K s (h + 1) - cz_ s < 112 := by omega
  have o_ : op n = nI (oc n) := ct_op ht g1 rfl
  have b4' : yt s = nI (h + K s (h + 1) - cz_ s + 1) := by rw [b4]; exact congrArg nI (by omega)
  have hpn := (ht.2.2.2.2 n g1).1.2.2.2
  have yp_ := (hyp n g1).2
  have hEn := ct_E ht g1
  have hkd := (ht.2.2.2.2 n g1).2.2.2.2.2.1
  have h10 : oc n ≠ 10 := by omega
  have hK0 : K s (h + 1) = K s h := by rw [g13, if_neg h10]; rfl
  have b4p : yt s = nI (h + K s h - cz_ s + 1) := by rw [← hK0]; exact b4'
  have g8p : yl (112 * s + (h + K s h - cz_ s)) = nI n := by rw [← hK0]; exact g8
  have b1p : K s h ≤ dep := by omega
  have b5p : xc s = nI (K s h) := by rw [← hK0]; exact b5
  have b6p : yc s = nI (K s h) := by rw [← hK0]; exact b6
  have hwp : h + K s h - cz_ s < 112 := by omega
  have hsh : 1 ≤ s → 1 ≤ h := fun hs1 => by
    have z1 := cz_1 hs1
    rcases Nat.eq_zero_or_pos h with hz | hz
    · subst hz
      have := h1.2.1 s
      omega
    · exact hz
  subst h0
  have g6' : fT (s * 128 + h) = nI 0 := by rw [g6, hd]; rfl
  rcases Nat.lt_or_ge V 120 with hV | hV
  · have h2 : (cc_C N oc pc E lv kd a b SC F C (V + 1) (cd_D D V e (a n)) K T fN fX (upd fS (s * 128 + h) (nI (V + 1))) (upd fT (s * 128 + h) (nI (0 + 1))) fL yl (upd ya (112 * s + (h + K s (h + 1) - cz_ s)) (nI (0 + 1))) (upd ye (112 * s + (h + K s (h + 1) - cz_ s)) (nI V)) yk P H dep xh xc yt yc fn fe gn ge (upd vn (V + 1) (a n)) (upd vo (V + 1) (nI e)) (vp_updL vv (V + 1) cr) (upd wn V (a n)) (upd wu V (nI e - 1)) (vp_updL wv V gt) xst xf xr yst yf yr Q k s h) := cc_var ht h1 (by omega) (by omega) hV g4 hv (ca_u ca_r (by omega) (by omega)) (ca_u ca_r (by omega) (by omega)) (ca_u ca_r (by omega) (by omega)) (ca_u ca_r (by omega) (by omega))
    rcases Nat.lt_or_ge (0 + 1) (pc n) with hlt | hlt
    · have k1 := hkd 0 g3
      have k2 := hkd 1 hlt
      have k5 : E (kd n 0) ≤ kd n 1 := (k1.2.2.2.2.1 hlt).2.1
      have k4 := ((ht.2.2.2.2 n g1).2.2.2.2.2.2 trivial).2.2.2 1 hlt
      have k3 := ct_E ht k2.2.1
      obtain ⟨φ', hφ, hk'⟩ := cr_P (P' := ch_ P s (T s h + 4 * (E n - kd n 1) + 3)) (d := 1) hk h7 rfl (by omega)
      refine ⟨_, _, 0, xs_d (fun post K => x_del h7 (by omega) b3 (x_take8 h7 (by omega) b3 g5 (by omega) o_ (by omega) g6' hd (x_loc0 (by omega) g5 (by omega) hV K))), fun post K => y_8a hV h7 b4' hw g8 (by omega) g9 yp_ (by omega) (by omega) o_ (by omega) hd rfl K, ?_⟩
      rw [g7, g10]
      refine cr_rdy (i := 1) (e := V + 1) ht h2 g1 g2 hlt (by omega) g5 ?_ pk_us g8 pk_us ?_ ?_ ?_ g13 g14 g15 (hn.trans (ct_nxl hlt)) b1 b3 b4 b5 b6 hφ hk'
      · rw [pk_us, ct_tkn (by omega)]
      · rw [pk_us, nI_pred]
      · intro c hc
        rw [cd_D_new]
        rcases hc with hc | hc | hc
        · exact Or.inr (g11 c (Or.inl hc))
        · exact Or.inl hc.2.2
        · exact absurd hc.1 h10
      · exact ⟨fun _ h => by omega, fun h => by omega⟩
    · have hx := hn.trans (ct_nxe (kd := kd) (show ¬ 0 + 1 < pc n by omega))
      have hz0 : fL ((s * 128 + h) * 4) = 0 := g12.1 hd rfl
      refine ⟨_, _, 1, xs_t (xs_d (fun post K => x_del h7 (by omega) b3 (x_take8 h7 (by omega) b3 g5 (by omega) o_ (by omega) g6' hd (x_loc0 (by omega) g5 (by omega) hV K)))) (xs_a (fun post K => x_adv1 h7 b3 (by omega) hx (x_c8 h7 (by omega) g5 (by omega) (o_.trans (by rw [hd]; rfl)) (x_finish h7 b3 K)))), fun post K => y_8b hV h7 b4' hw g8 (by omega) g9 yp_ (by omega) (by omega) o_ (by omega) hd rfl (y_finish h7 b4p hwp g8p (by omega) o_ (by omega) h10 K), ?_⟩
      rw [g7, g10, hz0]
      exact cr_pop ht h2 b1p b5p b6p hsh hk (by omega) cv_nil
  · obtain rfl : V = 120 := by have := h1.1.2.2.1; omega
    have hφ2 : P s ≤ φ := by have h3 := sm_le (f := P) 7 h7; have h4 := hk.1.2.2.1; omega
    have h2 : (cc_C N oc pc E lv kd a b SC F C 120 D K T fN fX fS (upd fT (s * 128 + h) (nI (0 + 1))) fL yl ya ye yk P H dep xh xc yt yc fn fe gn ge vn vo vv wn wu wv xst xf xr yst yf yr Q k s h) := cc_fr ht h1 (by omega) (by omega) (fun _ _ _ => rfl) (fun _ _ _ => rfl) ca_r ca_r ca_r (ca_u ca_r (by omega) (by omega)) ca_r ca_r ca_r ca_r ca_r ca_r ca_r ca_r ca_r ca_r
    obtain ⟨u', v', gX, gY, gT⟩ := cr_raise (d := 1) (ph := -1) (hs := 0) (cr := cr) (gt := gt) (gv := gv) (ec := ec) (en := en) (ft := ft) (xN := xN) (xL := xL) (xp := xp) (xl := xl) (xo := xo) (yN := yN) (yi := yi) (yo := yo) (yp := yp) ht h2 b1p hk (by omega) (by omega) 7 (nI n)
    refine ⟨u', v', 0, xs_d (fun post K => x_del h7 (by omega) b3 (x_take8 h7 (by omega) b3 g5 (by omega) o_ (by omega) g6' hd (x_loc0e (by omega) g5 (gX post K)))), fun post K => ?_, gT⟩
    by_cases hz : 0 + 1 = pc n
    · exact y_8e1 h7 b4' hw g8 (by omega) g9 yp_ (by omega) (by omega) o_ hz hd rfl (gY post K)
    · exact y_8e0 h7 b4' hw g8 (by omega) g9 yp_ (by omega) (by omega) o_ hz hd rfl (gY post K)
theorem sA_loc1 {n i e : Nat} (ht : (ct_all op a b fi nx pa N oc pc E lv kd SC)) (hyp : ∀ n, n < N → xp n = nI (pc n) ∧ yp n = nI (pc n)) (h1 : (cc_C N oc pc E lv kd a b SC F C V D K T fN fX fS fT fL yl ya ye yk P H dep xh xc yt yc fn fe gn ge vn vo vv wn wu wv xst xf xr yst yf yr Q k s h)) (g1 : n < N) (g2 : oc n < 19) (g3 : i < pc n) (g4 : e ≤ V) (g5 : fN (s * 128 + h) = nI n) (g6 : fT (s * 128 + h) = nI (ct_tk (oc n) i)) (g7 : fS (s * 128 + h) = nI e) (g8 : yl (112 * s + (h + K s (h + 1) - cz_ s)) = nI n) (g9 : ya (112 * s + (h + K s (h + 1) - cz_ s)) = nI i) (g10 : ye (112 * s + (h + K s (h + 1) - cz_ s)) = nI e - 1) (g11 : ∀ c, ct_in oc a b SC n i c → D e c) (g12 : cf_S F C (oc n) i (fun q => fL ((s * 128 + h) * 4 + q)) (fun q => yk (3 * (112 * s + (h + K s (h + 1) - cz_ s)) + q))) (g13 : K s (h + 1) = K s h + (if oc n = 10 then 1 else 0)) (g14 : cz_ s ≤ K s (h + 1)) (g15 : h + 1 + K s (h + 1) ≤ 16 * K s (h + 1) + lv n + cz_ s) (hn : fX (s * 128 + h) = ct_nx pc kd n (i + 1)) (hT : T s h + 4 * (E n - E (kd n i)) + 3 ≤ T s (h + 1)) (b1 : K s (h + 1) ≤ dep) (b2 : T s (h + 1) + 2 ≤ P s) (b3 : xh s = nI (h + 1)) (b4 : yt s = nI (h + 1 + K s (h + 1) - cz_ s)) (b5 : xc s = nI (K s (h + 1))) (b6 : yc s = nI (K s (h + 1))) (hk : (cr_K φ fu q w F C P pv ou)) (hv : cv_R F C cr gt) (hd : oc n = 8) (h0 : 0 < i) : ∃ u2 v2 kx, xs_ (kx + 1) ((nI dep), (nI fu), xN, xL, (nI F), (nI V), (nI C), (nI s), (-2), cr, ec, en, ft, (nI q), (nI w), op, a, b, xp, fi, xl, nx, xo, fn, fe, vn, vo, vv, xst, xf, xr, xh, xc, fN, fX, fS, fT, fL, pv) u2 ∧ (∀ post : SY → Prop, post v2 → wpY_deliver post ((nI dep), (nI fu), yN, yi, yo, (nI V), (nI F), (nI C), (nI s), ft, (nI q), 0, 0, (-1), (nI w), 1, 0, gv, gt, op, a, b, pa, fi, nx, yp, wn, wu, gn, ge, wv, yl, ya, ye, yk, yt, yc, yst, yf, yr, ou) gt) ∧ cr_T op a b fi nx pa N oc pc E lv kd SC dep fu xN xL xp xl xo yN yi yo yp φ (kx + 1) u2 v2 := by
  have h7 := (cc_s h1).2
  have h6 := cc_dep h1
  have hKK : K s h ≤ K s (h + 1) := by omega
  have hh := cf_h ht (cc_FR h1) (by omega)
  have hN := ht.2.1
  have hl := (ht.2.2.2.2 n g1).2.2.2.1.2 (by omega)
  have hzl := cz_le s
  have hw : h + K s (h + 1) - cz_ s < 112 := by omega
  have o_ : op n = nI (oc n) := ct_op ht g1 rfl
  have b4' : yt s = nI (h + K s (h + 1) - cz_ s + 1) := by rw [b4]; exact congrArg nI (by omega)
  have hpn := (ht.2.2.2.2 n g1).1.2.2.2
  have yp_ := (hyp n g1).2
  have hEn := ct_E ht g1
  have hkd := (ht.2.2.2.2 n g1).2.2.2.2.2.1
  have h10 : oc n ≠ 10 := by omega
  have hK0 : K s (h + 1) = K s h := by rw [g13, if_neg h10]; rfl
  have b4p : yt s = nI (h + K s h - cz_ s + 1) := by rw [← hK0]; exact b4'
  have g8p : yl (112 * s + (h + K s h - cz_ s)) = nI n := by rw [← hK0]; exact g8
  have b1p : K s h ≤ dep := by omega
  have b5p : xc s = nI (K s h) := by rw [← hK0]; exact b5
  have b6p : yc s = nI (K s h) := by rw [← hK0]; exact b6
  have hwp : h + K s h - cz_ s < 112 := by omega
  have hsh : 1 ≤ s → 1 ≤ h := fun hs1 => by
    have z1 := cz_1 hs1
    rcases Nat.eq_zero_or_pos h with hz | hz
    · subst hz
      have := h1.2.1 s
      omega
    · exact hz
  have h5 : ct_tk (oc n) i = i := ct_tkn (by omega)
  rw [h5] at g6
  have h2 : (cc_C N oc pc E lv kd a b SC F C V D K T fN fX fS (upd fT (s * 128 + h) (nI (i + 1))) (vp_updL fL ((s * 128 + h) * 4) cr) yl (upd ya (112 * s + (h + K s (h + 1) - cz_ s)) (nI (i + 1))) ye yk P H dep xh xc yt yc fn fe gn ge vn vo vv wn wu wv xst xf xr yst yf yr Q k s h) := cc_fr ht h1 (by omega) (by omega) (fun _ _ _ => rfl) (fun _ _ _ => rfl) ca_r ca_r ca_r (ca_u ca_r (by omega) (by omega)) (ca_l ca_r (by omega) (by omega)) ca_r (ca_u ca_r (by omega) (by omega)) ca_r ca_r ca_r ca_r ca_r ca_r ca_r
  rcases Nat.lt_or_ge (i + 1) (pc n) with hlt | hlt
  · have k1 := hkd i g3
    have k2 := hkd (i + 1) hlt
    have k5 := (k1.2.2.2.2.1 hlt).2.1
    have k4 := ((ht.2.2.2.2 n g1).2.2.2.2.2.2 trivial).2.2.2 (i + 1) hlt
    have k3 := ct_E ht k2.2.1
    obtain ⟨φ', hφ, hk'⟩ := cr_P (P' := ch_ P s (T s h + 4 * (E n - kd n (i + 1)) + 3)) (d := 1) hk h7 rfl (by omega)
    refine ⟨_, _, 0, xs_d (fun post K => x_del h7 (by omega) b3 (x_take8 h7 (by omega) b3 g5 (by omega) o_ (by omega) g6 hd (x_loc1 (by omega) h0 (by omega) K))), fun post K => y_8c h7 b4' hw g8 (by omega) g9 yp_ (by omega) (by omega) o_ (by omega) hd h0 K, cr_rdy ht h2 g1 g2 hlt g4 g5 ?_ g7 g8 pk_us g10 (fun c hc => g11 c (ct_inL hc h0)) ?_ g13 g14 g15 (hn.trans (ct_nxl hlt)) b1 b3 b4 b5 b6 hφ hk'⟩
    · rw [pk_us, ct_tkn (by omega)]
    · exact ⟨fun _ h => by omega, fun h => by omega⟩
  · have hx := hn.trans (ct_nxe (kd := kd) (show ¬ i + 1 < pc n by omega))
    refine ⟨_, _, 1, xs_t (xs_d (fun post K => x_del h7 (by omega) b3 (x_take8 h7 (by omega) b3 g5 (by omega) o_ (by omega) g6 hd (x_loc1 (by omega) h0 (by omega) K)))) (xs_a (fun post K => x_adv1 h7 b3 (by omega) hx (x_c8 h7 (by omega) g5 (by omega) (o_.trans (by rw [hd]; rfl)) (x_finish h7 b3 K)))), fun post K => y_8d h7 b4' hw g8 (by omega) g9 yp_ (by omega) (by omega) o_ (by omega) hd h0 (y_finish h7 b4p hwp g8p (by omega) o_ (by omega) h10 K), ?_⟩
    rw [pk_uLs]
    exact cr_pop ht h2 b1p b5p b6p hsh hk (by omega) hv
/-- a function's last part has ended -/
theorem sA_fun {n i e : Nat} (ht : (ct_all op a b fi nx pa N oc pc E lv kd SC)) (hyp : ∀ n, n < N → xp n = nI (pc n) ∧ yp n = nI (pc n)) (h1 : (cc_C N oc pc E lv kd a b SC F C V D K T fN fX fS fT fL yl ya ye yk P H dep xh xc yt yc fn fe gn ge vn vo vv wn wu wv xst xf xr yst yf yr Q k s h)) (g1 : n < N) (g2 : oc n < 19) (g3 : i < pc n) (g4 : e ≤ V) (g5 : fN (s * 128 + h) = nI n) (g6 : fT (s * 128 + h) = nI (ct_tk (oc n) i)) (g7 : fS (s * 128 + h) = nI e) (g8 : yl (112 * s + (h + K s (h + 1) - cz_ s)) = nI n) (g9 : ya (112 * s + (h + K s (h + 1) - cz_ s)) = nI i) (g10 : ye (112 * s + (h + K s (h + 1) - cz_ s)) = nI e - 1) (g11 : ∀ c, ct_in oc a b SC n i c → D e c) (g12 : cf_S F C (oc n) i (fun q => fL ((s * 128 + h) * 4 + q)) (fun q => yk (3 * (112 * s + (h + K s (h + 1) - cz_ s)) + q))) (g13 : K s (h + 1) = K s h + (if oc n = 10 then 1 else 0)) (g14 : cz_ s ≤ K s (h + 1)) (g15 : h + 1 + K s (h + 1) ≤ 16 * K s (h + 1) + lv n + cz_ s) (hn : fX (s * 128 + h) = ct_nx pc kd n (i + 1)) (hT : T s h + 4 * (E n - E (kd n i)) + 3 ≤ T s (h + 1)) (b1 : K s (h + 1) ≤ dep) (b2 : T s (h + 1) + 2 ≤ P s) (b3 : xh s = nI (h + 1)) (b4 : yt s = nI (h + 1 + K s (h + 1) - cz_ s)) (b5 : xc s = nI (K s (h + 1))) (b6 : yc s = nI (K s (h + 1))) (hk : (cr_K φ fu q w F C P pv ou)) (hv : cv_R F C cr gt) (hd : oc n = 10) (hlt : i + 1 = pc n) : ∃ u2 v2 kx, xs_ (kx + 1) ((nI dep), (nI fu), xN, xL, (nI F), (nI V), (nI C), (nI s), (-2), cr, ec, en, ft, (nI q), (nI w), op, a, b, xp, fi, xl, nx, xo, fn, fe, vn, vo, vv, xst, xf, xr, xh, xc, fN, fX, fS, fT, fL, pv) u2 ∧ (∀ post : SY → Prop, post v2 → wpY_deliver post ((nI dep), (nI fu), yN, yi, yo, (nI V), (nI F), (nI C), (nI s), ft, (nI q), 0, 0, (-1), (nI w), 1, 0, gv, gt, op, a, b, pa, fi, nx, yp, wn, wu, gn, ge, wv, yl, ya, ye, yk, yt, yc, yst, yf, yr, ou) gt) ∧ cr_T op a b fi nx pa N oc pc E lv kd SC dep fu xN xL xp xl xo yN yi yo yp φ (kx + 1) u2 v2 := by
  have h7 := (cc_s h1).2
  have h6 := cc_dep h1
  have hKK : K s h ≤ K s (h + 1) := by omega
  have hh := cf_h ht (cc_FR h1) (by omega)
  have hN := ht.2.1
  have hl := (ht.2.2.2.2 n g1).2.2.2.1.2 (by omega)
  have hzl := cz_le s
  have hw : h + K s (h + 1) - cz_ s < 112 := by omega
  have o_ : op n = nI (oc n) := ct_op ht g1 rfl
  have b4' : yt s = nI (h + K s (h + 1) - cz_ s + 1) := by rw [b4]; exact congrArg nI (by omega)
  have hpn := (ht.2.2.2.2 n g1).1.2.2.2
  have yp_ := (hyp n g1).2
  have hEn := ct_E ht g1
  have hkd := (ht.2.2.2.2 n g1).2.2.2.2.2.1
  have h5 : ct_tk (oc n) i = i := ct_tkn (by omega)
  rw [h5] at g6
  have hK1 : K s (h + 1) = K s h + 1 := by rw [g13, if_pos hd]
  have b5c : xc s = nI (K s h + 1) := by rw [← hK1]; exact b5
  have b6c : yc s = nI (K s h + 1) := by rw [← hK1]; exact b6
  have hx := hn.trans (ct_nxe (kd := kd) (show ¬ i + 1 < pc n by omega))
  have o10 : op n = 10 := o_.trans (by rw [hd]; rfl)
  have h2 : (cc_C N oc pc E lv kd a b SC F C V D K T fN fX fS (upd fT (s * 128 + h) (nI (i + 1))) (vp_updL fL ((s * 128 + h) * 4) cr) yl (upd ya (112 * s + (h + K s (h + 1) - cz_ s)) (nI (i + 1))) ye yk P H dep xh (upd xc s (nI (K s h))) yt (upd yc s (nI (K s h))) fn fe gn ge vn vo vv wn wu wv xst xf xr yst yf yr Q k s h) := cc_fr ht h1 (by omega) (by omega) (fun _ _ _ => rfl) (fun _ _ _ => rfl) ca_r ca_r ca_r (ca_u ca_r (by omega) (by omega)) (ca_l ca_r (by omega) (by omega)) ca_r (ca_u ca_r (by omega) (by omega)) ca_r ca_r ca_r ca_r (ca_u ca_r (by omega) (by omega)) ca_r (ca_u ca_r (by omega) (by omega))
  by_cases hb : 1 ≤ s ∧ h = 0
  · obtain ⟨hs1, rfl⟩ := hb
    have hK00 := h1.2.1 s
    have hw0 : 0 + K s (0 + 1) - cz_ s = 0 := by rw [cz_1 hs1]; omega
    have h3 : (cc_C N oc pc E lv kd a b SC F C V D K T fN fX fS (upd fT (s * 128 + 0) (nI (i + 1))) (vp_updL fL ((s * 128 + 0) * 4) cr) yl (upd ya (112 * s + (0 + K s (0 + 1) - cz_ s)) (nI (i + 1))) ye yk P H dep (upd xh s (nI 0)) (upd xc s (nI (K s 0))) (upd yt s (nI (0 + K s (0 + 1) - cz_ s))) (upd yc s (nI (K s 0))) fn fe gn ge vn vo vv wn wu wv xst xf xr yst yf yr Q k s 0) := cc_fr ht h2 (by omega) (by omega) (fun _ _ _ => rfl) (fun _ _ _ => rfl) ca_r ca_r ca_r ca_r ca_r ca_r ca_r ca_r ca_r ca_r (ca_u ca_r (by omega) (by omega)) ca_r (ca_u ca_r (by omega) (by omega)) ca_r
    obtain ⟨r, j, e1, e2, e3, e4, e5, e6, e7, e8⟩ := cr_leave (m := 0) (wd := 2) (d := 3) (ft := ft) (ec := ec) (en := en) (gv := gv) (xN := xN) (xL := xL) (xp := xp) (xl := xl) (xo := xo) (yN := yN) (yi := yi) (yo := yo) (yp := yp) ht h3 (by omega) hk hs1 (Or.inr rfl) (by omega) (fun h => by omega) hv
    refine ⟨_, _, 2, xs_t (xs_t (xs_d (fun post K => x_del h7 (by omega) b3 (x_take10 h7 (by omega) b3 g5 (by omega) o_ (by omega) g6 hd K))) (xs_a (fun post K => x_adv1 h7 b3 (by omega) hx (x_c10 h7 (by omega) g5 (by omega) o10 b5c (x_finish h7 b3 K))))) (xs_d (fun post K => x_del0 hs1 h7 e1 pk_us e3 e5 K)), fun post K => y_10l h7 b4' hw g8 (by omega) g9 yp_ (by omega) (by omega) o_ hlt hd (y_finishF h7 b4' hw g8 (by omega) o10 (y_ret0 h7 e1 e4 e2 b6c (by rw [pk_us, hw0]) e6 K)), ?_⟩
    rw [pk_uLs]
    exact e8
  · have hsh : 1 ≤ s → 1 ≤ h := fun hs1 => by
      rcases Nat.eq_zero_or_pos h with hz | hz
      · exact absurd ⟨hs1, hz⟩ hb
      · exact hz
    have hz := cf_z ht (cc_FR h1) (by omega) hsh
    have hw1 : h + K s (h + 1) - cz_ s = h + K s h - cz_ s + 1 := by omega
    refine ⟨_, _, 1, xs_t (xs_d (fun post K => x_del h7 (by omega) b3 (x_take10 h7 (by omega) b3 g5 (by omega) o_ (by omega) g6 hd K))) (xs_a (fun post K => x_adv1 h7 b3 (by omega) hx (x_c10 h7 (by omega) g5 (by omega) o10 b5c (x_finish h7 b3 K)))), fun post K => y_10l h7 b4' hw g8 (by omega) g9 yp_ (by omega) (by omega) o_ hlt hd (y_finishF h7 b4' hw g8 (by omega) o10 (y_ret1 h7 b6c (by rw [pk_us, hw1]) (by omega) K)), ?_⟩
    rw [pk_uLs, up_same]
    exact cr_pop ht h2 (by omega) pk_us pk_us hsh hk (by omega) hv
end
end
section
section
/-- numbers on both sides -/
theorem xy_num {F C : Nat} {x y : Int64} (hF : F ≤ 40) (hC : C ≤ 6) (h : cv_R F C x y) : (∃ n, n < 4294967296 ∧ x = lN (n + 4294967296) ∧ y = lN n ∧ (∀ q : Int32 → Prop, q 1 → wpX_isNumber q x) ∧ (∀ (q : Int32 → Prop) (u : SY), q 1 → wpY_number q u y)) ∨ ((∀ q : Int32 → Prop, q 0 → wpX_isNumber q x) ∧ (∀ (q : Int32 → Prop) (u : SY), q 0 → wpY_number q u y)) := by
  rcases cv_cases hF h with ⟨n, hn, rfl, rfl⟩ | ⟨rfl, rfl⟩ | ⟨f, hf, rfl, rfl⟩ | ⟨c, hc, rfl, rfl⟩
  · refine Or.inl ⟨n, hn, rfl, rfl, fun q hq => ?_, fun q u hq => ?_⟩
    · unfold wpX_isNumber
      refine x_kind (by omega) ?_
      rw [show (n + 4294967296) / 4294967296 = 1 by omega]
      exact br_t rfl hq
    · exact br_f (fun h => absurd ((vo_le (c := 4294967296) (by omega) (by omega)).mp h) (by omega)) hq
  · refine Or.inr ⟨fun q hq => ?_, fun q u hq => br_t ((vo_le (c := 4294967296) (by omega) (by omega)).mpr (Nat.le_refl _)) hq⟩
    unfold wpX_isNumber
    refine x_kind (by omega) ?_
    exact br_f (by decide) hq
  · refine Or.inr ⟨fun q hq => ?_, fun q u hq => br_t ((vo_le (c := 4294967296) (by omega) (by omega)).mpr (by omega)) hq⟩
    unfold wpX_isNumber
    refine x_kind (by omega) ?_
    rw [show (8589934592 + f) / 4294967296 = 2 by omega]
    exact br_f (by decide) hq
  · refine Or.inr ⟨fun q hq => ?_, fun q u hq => br_t ((vo_le (c := 4294967296) (by omega) (by omega)).mpr (by omega)) hq⟩
    unfold wpX_isNumber
    refine x_kind (by omega) ?_
    rw [show (12884901888 + c + 1) / 4294967296 = 3 by omega]
    exact br_f (by decide) hq
/-- functions on both sides -/
theorem xy_fun {F C : Nat} {x y : Int64} (hF : F ≤ 40) (hC : C ≤ 6) (h : cv_R F C x y) : (∃ f, f < F ∧ x = lN (8589934592 + f) ∧ y = lN (8589934592 + f) ∧ (∀ q : Int32 → Prop, q 2 → wpX_kindOf q x) ∧ (∀ (q : Int32 → Prop) (u : SY), q 1 → wpY_function q u y)) ∨ ((∃ k : Int32, k ≠ 2 ∧ (∀ q : Int32 → Prop, q k → wpX_kindOf q x)) ∧ (∀ (q : Int32 → Prop) (u : SY), q 0 → wpY_function q u y)) := by
  rcases cv_cases hF h with ⟨n, hn, rfl, rfl⟩ | ⟨rfl, rfl⟩ | ⟨f, hf, rfl, rfl⟩ | ⟨c, hc, rfl, rfl⟩
  · refine Or.inr ⟨⟨1, by decide, fun q hq => x_kind (by omega) ?_⟩, fun q u hq => br_t ((vo_lt (c := 8589934592) (by omega) (by omega)).mpr (by omega)) hq⟩
    rw [show (n + 4294967296) / 4294967296 = 1 by omega]
    exact hq
  · exact Or.inr ⟨⟨0, by decide, fun q hq => x_kind (by omega) hq⟩, fun q u hq => br_t ((vo_lt (c := 8589934592) (by omega) (by omega)).mpr (by omega)) hq⟩
  · refine Or.inl ⟨f, hf, rfl, rfl, fun q hq => x_kind (by omega) ?_, fun q u hq => br_f (fun h => absurd ((vo_lt (c := 8589934592) (by omega) (by omega)).mp h) (by omega)) (br_f (fun h => absurd ((vo_le (c := 12884901888) (by omega) (by omega)).mp h) (by omega)) hq)⟩
    rw [show (8589934592 + f) / 4294967296 = 2 by omega]
    exact hq
  · refine Or.inr ⟨⟨3, by decide, fun q hq => x_kind (by omega) ?_⟩, fun q u hq => br_f (fun h => absurd ((vo_lt (c := 8589934592) (by omega) (by omega)).mp h) (by omega)) (br_t ((vo_le (c := 12884901888) (by omega) (by omega)).mpr (by omega)) hq)⟩
    rw [show (12884901888 + c + 1) / 4294967296 = 3 by omega]
    exact hq
/-- coroutines on both sides -/
theorem xy_co {F C : Nat} {x y : Int64} (hF : F ≤ 40) (hC : C ≤ 6) (h : cv_R F C x y) : (∃ c, c < C ∧ x = lN (12884901888 + c + 1) ∧ y = lN (12884901888 + c) ∧ (∀ q : Int32 → Prop, q 3 → wpX_kindOf q x) ∧ 12884901888 ≤ y) ∨ ((∃ k : Int32, k ≠ 3 ∧ (∀ q : Int32 → Prop, q k → wpX_kindOf q x)) ∧ ¬ 12884901888 ≤ y) := by
  rcases cv_cases hF h with ⟨n, hn, rfl, rfl⟩ | ⟨rfl, rfl⟩ | ⟨f, hf, rfl, rfl⟩ | ⟨c, hc, rfl, rfl⟩
  · refine Or.inr ⟨⟨1, by decide, fun q hq => x_kind (by omega) ?_⟩, fun h => absurd ((vo_le (c := 12884901888) (by omega) (by omega)).mp h) (by omega)⟩
    rw [show (n + 4294967296) / 4294967296 = 1 by omega]
    exact hq
  · exact Or.inr ⟨⟨0, by decide, fun q hq => x_kind (by omega) hq⟩, fun h => absurd ((vo_le (c := 12884901888) (by omega) (by omega)).mp h) (by omega)⟩
  · refine Or.inr ⟨⟨2, by decide, fun q hq => x_kind (by omega) ?_⟩, fun h => absurd ((vo_le (c := 12884901888) (by omega) (by omega)).mp h) (by omega)⟩
    rw [show (8589934592 + f) / 4294967296 = 2 by omega]
    exact hq
  · refine Or.inl ⟨c, hc, rfl, rfl, fun q hq => x_kind (by omega) ?_, (vo_le (c := 12884901888) (by omega) (by omega)).mpr (by omega)⟩
    rw [show (12884901888 + c + 1) / 4294967296 = 3 by omega]
    exact hq
/-- the four arithmetic kinds -/
def ar_ (o : Nat) (x y : Int32) : Int32 := if o = 0 then x + y else if o = 1 then x - y else if o = 2 then x * y else if y ≤ x then 0 else 1
end
section
variable {yd yg yN yi yo yV yF yC ys yft ybt res yer ypl ypr rn hs : Int32} {gv gt : Int64} {op a b pa fi nx yp wn wu gn ge : Nat → Int32} {wv : Nat → Int64} {yl ya ye : Nat → Int32} {yk : Nat → Int64} {yt yc yst yf yr : Nat → Int32} {ou : Nat → Int64}
variable {post : SY → Prop}
theorem y_a0 {s w n : Nat} {v : Int64} (h7 : s < 7) (hw : w < 112) (hn : n < 96) (ho : op n = 0) (K : wpY_arithmetic post (yd, yg, yN, yi, yo, yV, yF, yC, (nI s), yft, ybt, res, yer, ypl, ypr, rn, hs, gv, gt, op, a, b, pa, fi, nx, yp, wn, wu, gn, ge, wv, yl, ya, ye, yk, yt, yc, yst, yf, yr, ou) (nI n) 0 (yk (3 * (112 * s + w))) v) : wpY_apply post (yd, yg, yN, yi, yo, yV, yF, yC, (nI s), yft, ybt, res, yer, ypl, ypr, rn, hs, gv, gt, op, a, b, pa, fi, nx, yp, wn, wu, gn, ge, wv, yl, ya, ye, yk, yt, yc, yst, yf, yr, ou) (nI (112 * s + w)) (nI n) v := by
  have e2 := nc_ (n := n) (by omega)
  have e3 := nc_ (n := 3 * (112 * s + w)) (by omega)
  have vn := vi_ (n := n) (N := 96) hn (by omega)
  have v3 : vp_in (3 * nI (112 * s + w)) 2352 := by rw [ix_3]; exact vi_ (by omega) (by omega)
  refine ⟨vn, nm_r (e' := op n) (by rw [e2]) ⟨v3, nm_r (e' := yk (3 * (112 * s + w))) (by rw [ix_3, e3]) ?_⟩⟩
  rw [ho]
  exact br_f (by decide) K
theorem y_a1 {s w n : Nat} {v : Int64} (h7 : s < 7) (hw : w < 112) (hn : n < 96) (ho : op n = 1) (K : wpY_arithmetic post (yd, yg, yN, yi, yo, yV, yF, yC, (nI s), yft, ybt, res, yer, ypl, ypr, rn, hs, gv, gt, op, a, b, pa, fi, nx, yp, wn, wu, gn, ge, wv, yl, ya, ye, yk, yt, yc, yst, yf, yr, ou) (nI n) 1 (yk (3 * (112 * s + w))) v) : wpY_apply post (yd, yg, yN, yi, yo, yV, yF, yC, (nI s), yft, ybt, res, yer, ypl, ypr, rn, hs, gv, gt, op, a, b, pa, fi, nx, yp, wn, wu, gn, ge, wv, yl, ya, ye, yk, yt, yc, yst, yf, yr, ou) (nI (112 * s + w)) (nI n) v := by
  have e2 := nc_ (n := n) (by omega)
  have e3 := nc_ (n := 3 * (112 * s + w)) (by omega)
  have vn := vi_ (n := n) (N := 96) hn (by omega)
  have v3 : vp_in (3 * nI (112 * s + w)) 2352 := by rw [ix_3]; exact vi_ (by omega) (by omega)
  refine ⟨vn, nm_r (e' := op n) (by rw [e2]) ⟨v3, nm_r (e' := yk (3 * (112 * s + w))) (by rw [ix_3, e3]) ?_⟩⟩
  rw [ho]
  exact br_f (by decide) K
theorem y_a2 {s w n : Nat} {v : Int64} (h7 : s < 7) (hw : w < 112) (hn : n < 96) (ho : op n = 2) (K : wpY_arithmetic post (yd, yg, yN, yi, yo, yV, yF, yC, (nI s), yft, ybt, res, yer, ypl, ypr, rn, hs, gv, gt, op, a, b, pa, fi, nx, yp, wn, wu, gn, ge, wv, yl, ya, ye, yk, yt, yc, yst, yf, yr, ou) (nI n) 2 (yk (3 * (112 * s + w))) v) : wpY_apply post (yd, yg, yN, yi, yo, yV, yF, yC, (nI s), yft, ybt, res, yer, ypl, ypr, rn, hs, gv, gt, op, a, b, pa, fi, nx, yp, wn, wu, gn, ge, wv, yl, ya, ye, yk, yt, yc, yst, yf, yr, ou) (nI (112 * s + w)) (nI n) v := by
  have e2 := nc_ (n := n) (by omega)
  have e3 := nc_ (n := 3 * (112 * s + w)) (by omega)
  have vn := vi_ (n := n) (N := 96) hn (by omega)
  have v3 : vp_in (3 * nI (112 * s + w)) 2352 := by rw [ix_3]; exact vi_ (by omega) (by omega)
  refine ⟨vn, nm_r (e' := op n) (by rw [e2]) ⟨v3, nm_r (e' := yk (3 * (112 * s + w))) (by rw [ix_3, e3]) ?_⟩⟩
  rw [ho]
  exact br_f (by decide) K
theorem y_a3 {s w n : Nat} {v : Int64} (h7 : s < 7) (hw : w < 112) (hn : n < 96) (ho : op n = 3) (K : wpY_arithmetic post (yd, yg, yN, yi, yo, yV, yF, yC, (nI s), yft, ybt, res, yer, ypl, ypr, rn, hs, gv, gt, op, a, b, pa, fi, nx, yp, wn, wu, gn, ge, wv, yl, ya, ye, yk, yt, yc, yst, yf, yr, ou) (nI n) 3 (yk (3 * (112 * s + w))) v) : wpY_apply post (yd, yg, yN, yi, yo, yV, yF, yC, (nI s), yft, ybt, res, yer, ypl, ypr, rn, hs, gv, gt, op, a, b, pa, fi, nx, yp, wn, wu, gn, ge, wv, yl, ya, ye, yk, yt, yc, yst, yf, yr, ou) (nI (112 * s + w)) (nI n) v := by
  have e2 := nc_ (n := n) (by omega)
  have e3 := nc_ (n := 3 * (112 * s + w)) (by omega)
  have vn := vi_ (n := n) (N := 96) hn (by omega)
  have v3 : vp_in (3 * nI (112 * s + w)) 2352 := by rw [ix_3]; exact vi_ (by omega) (by omega)
  refine ⟨vn, nm_r (e' := op n) (by rw [e2]) ⟨v3, nm_r (e' := yk (3 * (112 * s + w))) (by rw [ix_3, e3]) ?_⟩⟩
  rw [ho]
  exact br_f (by decide) K
theorem y_a4 {s w n : Nat} {v : Int64} (h7 : s < 7) (hw : w < 112) (hn : n < 96) (ho : op n = 4) (K : wpY_finish post (yd, yg, yN, yi, yo, yV, yF, yC, (nI s), yft, ybt, res, yer, ypl, ypr, rn, hs, gv, gt, op, a, b, pa, fi, nx, yp, wn, wu, gn, ge, wv, yl, ya, ye, yk, yt, yc, yst, yf, yr, ou) (if yk (3 * (112 * s + w)) = v then 1 else 0)) : wpY_apply post (yd, yg, yN, yi, yo, yV, yF, yC, (nI s), yft, ybt, res, yer, ypl, ypr, rn, hs, gv, gt, op, a, b, pa, fi, nx, yp, wn, wu, gn, ge, wv, yl, ya, ye, yk, yt, yc, yst, yf, yr, ou) (nI (112 * s + w)) (nI n) v := by
  have e2 := nc_ (n := n) (by omega)
  have e3 := nc_ (n := 3 * (112 * s + w)) (by omega)
  have vn := vi_ (n := n) (N := 96) hn (by omega)
  have v3 : vp_in (3 * nI (112 * s + w)) 2352 := by rw [ix_3]; exact vi_ (by omega) (by omega)
  refine ⟨vn, nm_r (e' := op n) (by rw [e2]) ⟨v3, nm_r (e' := yk (3 * (112 * s + w))) (by rw [ix_3, e3]) ?_⟩⟩
  rw [ho]
  exact br_t (by decide) (br_t rfl (br_c (fun h1 => by rw [if_pos h1] at K; exact K) (fun h1 => by rw [if_neg h1] at K; exact K)))
theorem y_a9 {s w n : Nat} {v : Int64} (h7 : s < 7) (hw : w < 112) (hn : n < 96) (ho : op n = 9) {p : Nat} (hp : p < 120) (hf : ∀ q : Int32 → Prop, q (nI p) → wpY_find q (yd, yg, yN, yi, yo, yV, yF, yC, (nI s), yft, ybt, res, yer, ypl, ypr, rn, hs, gv, gt, op, a, b, pa, fi, nx, yp, wn, wu, gn, ge, wv, yl, ya, ye, yk, yt, yc, yst, yf, yr, ou) (a n) (ye (112 * s + w))) (ht : yt s = nI (w + 1)) (hl : yl (112 * s + w) = nI n) (K : post (yd, yg, yN, yi, yo, yV, yF, yC, (nI s), yft, ybt, res, yer, ypl, ypr, rn, 1, gv, v, op, a, b, pa, fi, nx, yp, wn, wu, gn, ge, (vp_updL wv p v), yl, ya, ye, yk, (upd yt s (nI w)), yc, yst, yf, yr, ou)) : wpY_apply post (yd, yg, yN, yi, yo, yV, yF, yC, (nI s), yft, ybt, res, yer, ypl, ypr, rn, hs, gv, gt, op, a, b, pa, fi, nx, yp, wn, wu, gn, ge, wv, yl, ya, ye, yk, yt, yc, yst, yf, yr, ou) (nI (112 * s + w)) (nI n) v := by
  have e2 := nc_ (n := n) (by omega)
  have e3 := nc_ (n := 3 * (112 * s + w)) (by omega)
  have vn := vi_ (n := n) (N := 96) hn (by omega)
  have v3 : vp_in (3 * nI (112 * s + w)) 2352 := by rw [ix_3]; exact vi_ (by omega) (by omega)
  refine ⟨vn, nm_r (e' := op n) (by rw [e2]) ⟨v3, nm_r (e' := yk (3 * (112 * s + w))) (by rw [ix_3, e3]) ?_⟩⟩
  rw [ho]
  exact br_t (by decide) (br_f (by decide) (br_t rfl ⟨vn, vi_ (by omega) (by omega), (by
      rw [e2, nc_ (n := 112 * s + w) (by omega)]
      refine hf _ ?_
      exact ⟨vi_ hp (by omega), nm_r (e' := vp_updL wv p v) (by rw [nc_ (by omega)]) (y_finish h7 ht hw hl hn (o := 9) ho (by omega) (by omega) K)⟩)⟩))
theorem y_a11 {s w n : Nat} {v : Int64} (h7 : s < 7) (hw : w < 112) (hn : n < 96) (ho : op n = 11) (K : wpY_call post (yd, yg, yN, yi, yo, yV, yF, yC, (nI s), yft, ybt, res, yer, ypl, ypr, rn, hs, gv, gt, op, a, b, pa, fi, nx, yp, wn, wu, gn, ge, wv, yl, ya, ye, yk, yt, yc, yst, yf, yr, ou) (nI (112 * s + w)) (nI n) v) : wpY_apply post (yd, yg, yN, yi, yo, yV, yF, yC, (nI s), yft, ybt, res, yer, ypl, ypr, rn, hs, gv, gt, op, a, b, pa, fi, nx, yp, wn, wu, gn, ge, wv, yl, ya, ye, yk, yt, yc, yst, yf, yr, ou) (nI (112 * s + w)) (nI n) v := by
  have e2 := nc_ (n := n) (by omega)
  have e3 := nc_ (n := 3 * (112 * s + w)) (by omega)
  have vn := vi_ (n := n) (N := 96) hn (by omega)
  have v3 : vp_in (3 * nI (112 * s + w)) 2352 := by rw [ix_3]; exact vi_ (by omega) (by omega)
  refine ⟨vn, nm_r (e' := op n) (by rw [e2]) ⟨v3, nm_r (e' := yk (3 * (112 * s + w))) (by rw [ix_3, e3]) ?_⟩⟩
  rw [ho]
  exact br_t (by decide) (br_f (by decide) (br_f (by decide) (br_t rfl K)))
theorem y_a12 {s w n : Nat} {v : Int64} (h7 : s < 7) (hw : w < 112) (hn : n < 96) (ho : op n = 12) (K : wpY_giveBack post (yd, yg, yN, yi, yo, yV, yF, yC, (nI s), yft, ybt, res, yer, ypl, ypr, rn, hs, gv, gt, op, a, b, pa, fi, nx, yp, wn, wu, gn, ge, wv, yl, ya, ye, yk, yt, yc, yst, yf, yr, ou) v) : wpY_apply post (yd, yg, yN, yi, yo, yV, yF, yC, (nI s), yft, ybt, res, yer, ypl, ypr, rn, hs, gv, gt, op, a, b, pa, fi, nx, yp, wn, wu, gn, ge, wv, yl, ya, ye, yk, yt, yc, yst, yf, yr, ou) (nI (112 * s + w)) (nI n) v := by
  have e2 := nc_ (n := n) (by omega)
  have e3 := nc_ (n := 3 * (112 * s + w)) (by omega)
  have vn := vi_ (n := n) (N := 96) hn (by omega)
  have v3 : vp_in (3 * nI (112 * s + w)) 2352 := by rw [ix_3]; exact vi_ (by omega) (by omega)
  refine ⟨vn, nm_r (e' := op n) (by rw [e2]) ⟨v3, nm_r (e' := yk (3 * (112 * s + w))) (by rw [ix_3, e3]) ?_⟩⟩
  rw [ho]
  exact br_t (by decide) (br_f (by decide) (br_f (by decide) (br_f (by decide) (br_t rfl K))))
theorem y_a13a {s w n : Nat} {v : Int64} (h7 : s < 7) (hw : w < 112) (hn : n < 96) (ho : op n = 13) (hf : ∀ q : Int32 → Prop, q 0 → wpY_number q (yd, yg, yN, yi, yo, yV, yF, yC, (nI s), yft, ybt, res, yer, ypl, ypr, rn, hs, gv, gt, op, a, b, pa, fi, nx, yp, wn, wu, gn, ge, wv, yl, ya, ye, yk, yt, yc, yst, yf, yr, ou) v) (K : wpY_raise post (yd, yg, yN, yi, yo, yV, yF, yC, (nI s), yft, ybt, res, yer, ypl, ypr, rn, hs, gv, gt, op, a, b, pa, fi, nx, yp, wn, wu, gn, ge, wv, yl, ya, ye, yk, yt, yc, yst, yf, yr, ou) 1 (nI n)) : wpY_apply post (yd, yg, yN, yi, yo, yV, yF, yC, (nI s), yft, ybt, res, yer, ypl, ypr, rn, hs, gv, gt, op, a, b, pa, fi, nx, yp, wn, wu, gn, ge, wv, yl, ya, ye, yk, yt, yc, yst, yf, yr, ou) (nI (112 * s + w)) (nI n) v := by
  have e2 := nc_ (n := n) (by omega)
  have e3 := nc_ (n := 3 * (112 * s + w)) (by omega)
  have vn := vi_ (n := n) (N := 96) hn (by omega)
  have v3 : vp_in (3 * nI (112 * s + w)) 2352 := by rw [ix_3]; exact vi_ (by omega) (by omega)
  refine ⟨vn, nm_r (e' := op n) (by rw [e2]) ⟨v3, nm_r (e' := yk (3 * (112 * s + w))) (by rw [ix_3, e3]) ?_⟩⟩
  rw [ho]
  exact br_t (by decide) (br_f (by decide) (br_f (by decide) (br_f (by decide) (br_f (by decide) (br_t rfl (hf _ (br_t rfl K)))))))
theorem y_a13b {s w n : Nat} {v : Int64} (h7 : s < 7) (hw : w < 112) (hn : n < 96) (ho : op n = 13) (hf : ∀ q : Int32 → Prop, q 1 → wpY_number q (yd, yg, yN, yi, yo, yV, yF, yC, (nI s), yft, ybt, res, yer, ypl, ypr, rn, hs, gv, gt, op, a, b, pa, fi, nx, yp, wn, wu, gn, ge, wv, yl, ya, ye, yk, yt, yc, yst, yf, yr, ou) v) (K : wpY_raise post (yd, yg, yN, yi, yo, yV, yF, yC, (nI s), yft, ybt, res, yer, ypl, ypr, rn, hs, gv, gt, op, a, b, pa, fi, nx, yp, wn, wu, gn, ge, wv, yl, ya, ye, yk, yt, yc, yst, yf, yr, ou) v.toInt32 (nI n)) : wpY_apply post (yd, yg, yN, yi, yo, yV, yF, yC, (nI s), yft, ybt, res, yer, ypl, ypr, rn, hs, gv, gt, op, a, b, pa, fi, nx, yp, wn, wu, gn, ge, wv, yl, ya, ye, yk, yt, yc, yst, yf, yr, ou) (nI (112 * s + w)) (nI n) v := by
  have e2 := nc_ (n := n) (by omega)
  have e3 := nc_ (n := 3 * (112 * s + w)) (by omega)
  have vn := vi_ (n := n) (N := 96) hn (by omega)
  have v3 : vp_in (3 * nI (112 * s + w)) 2352 := by rw [ix_3]; exact vi_ (by omega) (by omega)
  refine ⟨vn, nm_r (e' := op n) (by rw [e2]) ⟨v3, nm_r (e' := yk (3 * (112 * s + w))) (by rw [ix_3, e3]) ?_⟩⟩
  rw [ho]
  exact br_t (by decide) (br_f (by decide) (br_f (by decide) (br_f (by decide) (br_f (by decide) (br_t rfl (hf _ (br_f (by decide) K)))))))
theorem y_a15 {s w n : Nat} {v : Int64} (h7 : s < 7) (hw : w < 112) (hn : n < 96) (ho : op n = 15) (K : wpY_create post (yd, yg, yN, yi, yo, yV, yF, yC, (nI s), yft, ybt, res, yer, ypl, ypr, rn, hs, gv, gt, op, a, b, pa, fi, nx, yp, wn, wu, gn, ge, wv, yl, ya, ye, yk, yt, yc, yst, yf, yr, ou) (nI n) v) : wpY_apply post (yd, yg, yN, yi, yo, yV, yF, yC, (nI s), yft, ybt, res, yer, ypl, ypr, rn, hs, gv, gt, op, a, b, pa, fi, nx, yp, wn, wu, gn, ge, wv, yl, ya, ye, yk, yt, yc, yst, yf, yr, ou) (nI (112 * s + w)) (nI n) v := by
  have e2 := nc_ (n := n) (by omega)
  have e3 := nc_ (n := 3 * (112 * s + w)) (by omega)
  have vn := vi_ (n := n) (N := 96) hn (by omega)
  have v3 : vp_in (3 * nI (112 * s + w)) 2352 := by rw [ix_3]; exact vi_ (by omega) (by omega)
  refine ⟨vn, nm_r (e' := op n) (by rw [e2]) ⟨v3, nm_r (e' := yk (3 * (112 * s + w))) (by rw [ix_3, e3]) ?_⟩⟩
  rw [ho]
  exact br_t (by decide) (br_f (by decide) (br_f (by decide) (br_f (by decide) (br_f (by decide) (br_f (by decide) (br_f (by decide) (br_t rfl K)))))))
theorem y_a16 {s w n : Nat} {v : Int64} (h7 : s < 7) (hw : w < 112) (hn : n < 96) (ho : op n = 16) (K : wpY_resume post (yd, yg, yN, yi, yo, yV, yF, yC, (nI s), yft, ybt, res, yer, ypl, ypr, rn, hs, gv, gt, op, a, b, pa, fi, nx, yp, wn, wu, gn, ge, wv, yl, ya, ye, yk, yt, yc, yst, yf, yr, ou) (nI n) (yk (3 * (112 * s + w))) v) : wpY_apply post (yd, yg, yN, yi, yo, yV, yF, yC, (nI s), yft, ybt, res, yer, ypl, ypr, rn, hs, gv, gt, op, a, b, pa, fi, nx, yp, wn, wu, gn, ge, wv, yl, ya, ye, yk, yt, yc, yst, yf, yr, ou) (nI (112 * s + w)) (nI n) v := by
  have e2 := nc_ (n := n) (by omega)
  have e3 := nc_ (n := 3 * (112 * s + w)) (by omega)
  have vn := vi_ (n := n) (N := 96) hn (by omega)
  have v3 : vp_in (3 * nI (112 * s + w)) 2352 := by rw [ix_3]; exact vi_ (by omega) (by omega)
  refine ⟨vn, nm_r (e' := op n) (by rw [e2]) ⟨v3, nm_r (e' := yk (3 * (112 * s + w))) (by rw [ix_3, e3]) ?_⟩⟩
  rw [ho]
  exact br_t (by decide) (br_f (by decide) (br_f (by decide) (br_f (by decide) (br_f (by decide) (br_f (by decide) (br_f (by decide) (br_f (by decide) (br_t rfl K))))))))
theorem y_a17a {s w n : Nat} {v : Int64} (h7 : s < 7) (hw : w < 112) (hn : n < 96) (ho : op n = 17) (h0 : s = 0) (K : wpY_raise post (yd, yg, yN, yi, yo, yV, yF, yC, (nI s), yft, ybt, res, yer, ypl, ypr, rn, hs, gv, gt, op, a, b, pa, fi, nx, yp, wn, wu, gn, ge, wv, yl, ya, ye, yk, yt, yc, yst, yf, yr, ou) 6 (nI n)) : wpY_apply post (yd, yg, yN, yi, yo, yV, yF, yC, (nI s), yft, ybt, res, yer, ypl, ypr, rn, hs, gv, gt, op, a, b, pa, fi, nx, yp, wn, wu, gn, ge, wv, yl, ya, ye, yk, yt, yc, yst, yf, yr, ou) (nI (112 * s + w)) (nI n) v := by
  have e2 := nc_ (n := n) (by omega)
  have e3 := nc_ (n := 3 * (112 * s + w)) (by omega)
  have vn := vi_ (n := n) (N := 96) hn (by omega)
  have v3 : vp_in (3 * nI (112 * s + w)) 2352 := by rw [ix_3]; exact vi_ (by omega) (by omega)
  refine ⟨vn, nm_r (e' := op n) (by rw [e2]) ⟨v3, nm_r (e' := yk (3 * (112 * s + w))) (by rw [ix_3, e3]) ?_⟩⟩
  rw [ho]
  exact br_t (by decide) (br_f (by decide) (br_f (by decide) (br_f (by decide) (br_f (by decide) (br_f (by decide) (br_f (by decide) (br_f (by decide) (br_f (by decide) (br_t rfl (br_t (by rw [h0]; rfl) K))))))))))
theorem y_a17b {s w n : Nat} {v : Int64} (h7 : s < 7) (hw : w < 112) (hn : n < 96) (ho : op n = 17) (h0 : 1 ≤ s) (K : wpY_leave post (yd, yg, yN, yi, yo, yV, yF, yC, (nI s), yft, ybt, res, yer, ypl, ypr, rn, hs, gv, gt, op, a, b, pa, fi, nx, yp, wn, wu, gn, ge, wv, yl, ya, ye, yk, yt, yc, yst, yf, yr, ou) 0 v) : wpY_apply post (yd, yg, yN, yi, yo, yV, yF, yC, (nI s), yft, ybt, res, yer, ypl, ypr, rn, hs, gv, gt, op, a, b, pa, fi, nx, yp, wn, wu, gn, ge, wv, yl, ya, ye, yk, yt, yc, yst, yf, yr, ou) (nI (112 * s + w)) (nI n) v := by
  have e2 := nc_ (n := n) (by omega)
  have e3 := nc_ (n := 3 * (112 * s + w)) (by omega)
  have vn := vi_ (n := n) (N := 96) hn (by omega)
  have v3 : vp_in (3 * nI (112 * s + w)) 2352 := by rw [ix_3]; exact vi_ (by omega) (by omega)
  refine ⟨vn, nm_r (e' := op n) (by rw [e2]) ⟨v3, nm_r (e' := yk (3 * (112 * s + w))) (by rw [ix_3, e3]) ?_⟩⟩
  rw [ho]
  exact br_t (by decide) (br_f (by decide) (br_f (by decide) (br_f (by decide) (br_f (by decide) (br_f (by decide) (br_f (by decide) (br_f (by decide) (br_f (by decide) (br_t rfl (br_f (nI_ne0 (by omega) (by omega)) K))))))))))
theorem y_a18a {s w n : Nat} {v : Int64} (h7 : s < 7) (hw : w < 112) (hn : n < 96) (ho : op n = 18) (hf : ¬ 12884901888 ≤ v) (K : wpY_raise post (yd, yg, yN, yi, yo, yV, yF, yC, (nI s), yft, ybt, res, yer, ypl, ypr, rn, hs, gv, gt, op, a, b, pa, fi, nx, yp, wn, wu, gn, ge, wv, yl, ya, ye, yk, yt, yc, yst, yf, yr, ou) 2 (nI n)) : wpY_apply post (yd, yg, yN, yi, yo, yV, yF, yC, (nI s), yft, ybt, res, yer, ypl, ypr, rn, hs, gv, gt, op, a, b, pa, fi, nx, yp, wn, wu, gn, ge, wv, yl, ya, ye, yk, yt, yc, yst, yf, yr, ou) (nI (112 * s + w)) (nI n) v := by
  have e2 := nc_ (n := n) (by omega)
  have e3 := nc_ (n := 3 * (112 * s + w)) (by omega)
  have vn := vi_ (n := n) (N := 96) hn (by omega)
  have v3 : vp_in (3 * nI (112 * s + w)) 2352 := by rw [ix_3]; exact vi_ (by omega) (by omega)
  refine ⟨vn, nm_r (e' := op n) (by rw [e2]) ⟨v3, nm_r (e' := yk (3 * (112 * s + w))) (by rw [ix_3, e3]) ?_⟩⟩
  rw [ho]
  exact br_t (by decide) (br_f (by decide) (br_f (by decide) (br_f (by decide) (br_f (by decide) (br_f (by decide) (br_f (by decide) (br_f (by decide) (br_f (by decide) (br_f (by decide) (br_f hf K))))))))))
theorem y_a14a {s w n : Nat} {v : Int64} (h7 : s < 7) (hw : w < 112) (hn : n < 96) (ho : op n = 14) {m : Nat} (hm : m < 24) (K : wpY_finish post (yd, yg, yN, yi, yo, yV, yF, yC, (nI s), yft, ybt, res, yer, ypl, (nI (m + 1)), rn, hs, gv, gt, op, a, b, pa, fi, nx, yp, wn, wu, gn, ge, wv, yl, ya, ye, yk, yt, yc, yst, yf, yr, (vp_updL ou m v)) v) : wpY_apply post (yd, yg, yN, yi, yo, yV, yF, yC, (nI s), yft, ybt, res, yer, ypl, (nI m), rn, hs, gv, gt, op, a, b, pa, fi, nx, yp, wn, wu, gn, ge, wv, yl, ya, ye, yk, yt, yc, yst, yf, yr, ou) (nI (112 * s + w)) (nI n) v := by
  have e2 := nc_ (n := n) (by omega)
  have e3 := nc_ (n := 3 * (112 * s + w)) (by omega)
  have vn := vi_ (n := n) (N := 96) hn (by omega)
  have v3 : vp_in (3 * nI (112 * s + w)) 2352 := by rw [ix_3]; exact vi_ (by omega) (by omega)
  refine ⟨vn, nm_r (e' := op n) (by rw [e2]) ⟨v3, nm_r (e' := yk (3 * (112 * s + w))) (by rw [ix_3, e3]) ?_⟩⟩
  rw [ho]
  exact br_t (by decide) (br_f (by decide) (br_f (by decide) (br_f (by decide) (br_f (by decide) (br_f (by decide) (br_t rfl (br_f (nI_ge (b := 24) hm (by omega)) ⟨vi_ hm (by omega), nm_r (e' := vp_updL ou m v) (by rw [nc_ (by omega)]) (nm_r (nI_1 m) K)⟩)))))))
theorem y_a14b {s w n : Nat} {v : Int64} (h7 : s < 7) (hw : w < 112) (hn : n < 96) (ho : op n = 14) {m : Nat} (hm : 24 ≤ m) (hm2 : m < 2147483648) (K : wpY_finish post (yd, yg, yN, yi, yo, yV, yF, yC, (nI s), yft, ybt, res, yer, ypl, (nI (m + 1)), rn, hs, gv, gt, op, a, b, pa, fi, nx, yp, wn, wu, gn, ge, wv, yl, ya, ye, yk, yt, yc, yst, yf, yr, ou) v) : wpY_apply post (yd, yg, yN, yi, yo, yV, yF, yC, (nI s), yft, ybt, res, yer, ypl, (nI m), rn, hs, gv, gt, op, a, b, pa, fi, nx, yp, wn, wu, gn, ge, wv, yl, ya, ye, yk, yt, yc, yst, yf, yr, ou) (nI (112 * s + w)) (nI n) v := by
  have e2 := nc_ (n := n) (by omega)
  have e3 := nc_ (n := 3 * (112 * s + w)) (by omega)
  have vn := vi_ (n := n) (N := 96) hn (by omega)
  have v3 : vp_in (3 * nI (112 * s + w)) 2352 := by rw [ix_3]; exact vi_ (by omega) (by omega)
  refine ⟨vn, nm_r (e' := op n) (by rw [e2]) ⟨v3, nm_r (e' := yk (3 * (112 * s + w))) (by rw [ix_3, e3]) ?_⟩⟩
  rw [ho]
  exact br_t (by decide) (br_f (by decide) (br_f (by decide) (br_f (by decide) (br_f (by decide) (br_f (by decide) (br_t rfl (br_t (nI_le (a := 24) hm hm2) (nm_r (nI_1 m) K))))))))
theorem y_a18b {c : Nat} {s w n : Nat} (h7 : s < 7) (hw : w < 112) (hn : n < 96) (ho : op n = 18) {v : Int64} (hc : c < 6) (hle : 12884901888 ≤ v) (hx : (v - 12884901888).toInt32 + 1 = nI (c + 1)) (K : wpY_finish post (yd, yg, yN, yi, yo, yV, yF, yC, (nI s), yft, ybt, res, yer, ypl, ypr, rn, hs, gv, gt, op, a, b, pa, fi, nx, yp, wn, wu, gn, ge, wv, yl, ya, ye, yk, yt, yc, yst, yf, yr, ou) (yst (c + 1)).toInt64) : wpY_apply post (yd, yg, yN, yi, yo, yV, yF, yC, (nI s), yft, ybt, res, yer, ypl, ypr, rn, hs, gv, gt, op, a, b, pa, fi, nx, yp, wn, wu, gn, ge, wv, yl, ya, ye, yk, yt, yc, yst, yf, yr, ou) (nI (112 * s + w)) (nI n) v := by
  have e2 := nc_ (n := n) (by omega)
  have e3 := nc_ (n := 3 * (112 * s + w)) (by omega)
  have vn := vi_ (n := n) (N := 96) hn (by omega)
  have v3 : vp_in (3 * nI (112 * s + w)) 2352 := by rw [ix_3]; exact vi_ (by omega) (by omega)
  have ec := nc_ (n := c + 1) (by omega)
  refine ⟨vn, nm_r (e' := op n) (by rw [e2]) ⟨v3, nm_r (e' := yk (3 * (112 * s + w))) (by rw [ix_3, e3]) ?_⟩⟩
  rw [ho]
  refine br_t (by decide) (br_f (by decide) (br_f (by decide) (br_f (by decide) (br_f (by decide) (br_f (by decide) (br_f (by decide) (br_f (by decide) (br_f (by decide) (br_f (by decide) (br_t hle ?_))))))))))
  rw [hx, ec]
  exact ⟨vi_ (by omega) (by omega), K⟩
theorem y_arR {n : Nat} {o : Int32} {x y : Int64} (h : (∀ q : Int32 → Prop, q 0 → wpY_number q (yd, yg, yN, yi, yo, yV, yF, yC, ys, yft, ybt, res, yer, ypl, ypr, rn, hs, gv, gt, op, a, b, pa, fi, nx, yp, wn, wu, gn, ge, wv, yl, ya, ye, yk, yt, yc, yst, yf, yr, ou) x) ∨ ((∀ q : Int32 → Prop, q 1 → wpY_number q (yd, yg, yN, yi, yo, yV, yF, yC, ys, yft, ybt, res, yer, ypl, ypr, rn, hs, gv, gt, op, a, b, pa, fi, nx, yp, wn, wu, gn, ge, wv, yl, ya, ye, yk, yt, yc, yst, yf, yr, ou) x) ∧ (∀ q : Int32 → Prop, q 0 → wpY_number q (yd, yg, yN, yi, yo, yV, yF, yC, ys, yft, ybt, res, yer, ypl, ypr, rn, hs, gv, gt, op, a, b, pa, fi, nx, yp, wn, wu, gn, ge, wv, yl, ya, ye, yk, yt, yc, yst, yf, yr, ou) y))) (K : wpY_raise post (yd, yg, yN, yi, yo, yV, yF, yC, ys, yft, ybt, res, yer, ypl, ypr, rn, hs, gv, gt, op, a, b, pa, fi, nx, yp, wn, wu, gn, ge, wv, yl, ya, ye, yk, yt, yc, yst, yf, yr, ou) 1 (nI n)) : wpY_arithmetic post (yd, yg, yN, yi, yo, yV, yF, yC, ys, yft, ybt, res, yer, ypl, ypr, rn, hs, gv, gt, op, a, b, pa, fi, nx, yp, wn, wu, gn, ge, wv, yl, ya, ye, yk, yt, yc, yst, yf, yr, ou) (nI n) o x y := by
  unfold wpY_arithmetic
  dsimp only
  rcases h with h | h
  · refine h _ ?_
    exact br_t rfl K
  · refine h.1 _ ?_
    refine br_f (by decide) (h.2 _ ?_)
    exact br_t rfl K
theorem y_arN {n o m k : Nat} (ho : o < 4) (h1 : ∀ q : Int32 → Prop, q 1 → wpY_number q (yd, yg, yN, yi, yo, yV, yF, yC, ys, yft, ybt, res, yer, ypl, ypr, rn, hs, gv, gt, op, a, b, pa, fi, nx, yp, wn, wu, gn, ge, wv, yl, ya, ye, yk, yt, yc, yst, yf, yr, ou) (lN m)) (h2 : ∀ q : Int32 → Prop, q 1 → wpY_number q (yd, yg, yN, yi, yo, yV, yF, yC, ys, yft, ybt, res, yer, ypl, ypr, rn, hs, gv, gt, op, a, b, pa, fi, nx, yp, wn, wu, gn, ge, wv, yl, ya, ye, yk, yt, yc, yst, yf, yr, ou) (lN k)) (K : wpY_finish post (yd, yg, yN, yi, yo, yV, yF, yC, ys, yft, ybt, res, yer, ypl, ypr, rn, hs, gv, gt, op, a, b, pa, fi, nx, yp, wn, wu, gn, ge, wv, yl, ya, ye, yk, yt, yc, yst, yf, yr, ou) (lN (cv_n (ar_ o (nI m) (nI k))))) : wpY_arithmetic post (yd, yg, yN, yi, yo, yV, yF, yC, ys, yft, ybt, res, yer, ypl, ypr, rn, hs, gv, gt, op, a, b, pa, fi, nx, yp, wn, wu, gn, ge, wv, yl, ya, ye, yk, yt, yc, yst, yf, yr, ou) (nI n) (nI o) (lN m) (lN k) := by
  unfold wpY_arithmetic
  dsimp only
  refine h1 _ (br_f (by decide) (h2 _ (br_f (by decide) ?_)))
  rw [lN_i, lN_i]
  have ne : ∀ j, j < 4 → j ≠ o → ¬ nI o = nI j := by
    intro j hj hjo e
    have := (nI_eq (by omega) (by omega)).mp e
    omega
  have A : ∀ z : Int32, wpY_finish post (yd, yg, yN, yi, yo, yV, yF, yC, ys, yft, ybt, res, yer, ypl, ypr, rn, hs, gv, gt, op, a, b, pa, fi, nx, yp, wn, wu, gn, ge, wv, yl, ya, ye, yk, yt, yc, yst, yf, yr, ou) (lN (cv_n z)) → wY_arithmetic_83 post z yd yg yN yi yo yV yF yC ys yft ybt res yer ypl ypr rn hs gv gt op a b pa fi nx yp wn wu gn ge wv yl ya ye yk yt yc yst yf yr ou := by
    intro z hz
    unfold wY_arithmetic_83
    rw [vo_and]
    exact hz
  by_cases c0 : o = 0
  · subst c0
    exact br_t rfl (A _ K)
  by_cases c1 : o = 1
  · subst c1
    exact br_f (by decide) (br_t rfl (A _ K))
  by_cases c2 : o = 2
  · subst c2
    exact br_f (by decide) (br_f (by decide) (br_t rfl (A _ K)))
  · refine br_f (ne 0 (by omega) (by omega)) (br_f (ne 1 (by omega) (by omega)) (br_f (ne 2 (by omega) (by omega)) ?_))
    unfold ar_ at K
    rw [if_neg c0, if_neg c1, if_neg c2] at K
    exact br_c (fun h => by rw [if_pos h] at K; exact A _ K) (fun h => by rw [if_neg h] at K; exact A _ K)
end
section
variable {xd xg xN xL xF xV xC xs ph : Int32} {cr : Int64} {ec en ft bt pr : Int32} {op a b xp fi xl nx xo fn fe vn vo : Nat → Int32} {vv : Nat → Int64} {xst xf xr xh xc fN fX fS fT : Nat → Int32} {fL pv : Nat → Int64}
variable {post : SX → Prop}
theorem x_arR {i m : Nat} {x y : Int64} (hi : i < 896) (hn : fN i = nI m) (hy : fL (i * 4 + 1) = y) (h : (∀ q : Int32 → Prop, q 0 → wpX_isNumber q x) ∨ ((∀ q : Int32 → Prop, q 1 → wpX_isNumber q x) ∧ (∀ q : Int32 → Prop, q 0 → wpX_isNumber q y))) (K : wpX_raise post (xd, xg, xN, xL, xF, xV, xC, xs, ph, cr, ec, en, ft, bt, pr, op, a, b, xp, fi, xl, nx, xo, fn, fe, vn, vo, vv, xst, xf, xr, xh, xc, fN, fX, fS, fT, fL, pv) 1 (nI m)) : wpX_concludeArithmetic post (xd, xg, xN, xL, xF, xV, xC, xs, ph, cr, ec, en, ft, bt, pr, op, a, b, xp, fi, xl, nx, xo, fn, fe, vn, vo, vv, xst, xf, xr, xh, xc, fN, fX, fS, fT, fL, pv) (nI i) x := by
  have ei := nc_ (n := i) (by omega)
  have e5 := nc_ (n := i * 4 + 1) (by omega)
  have wi := vi_ (n := i) (N := 896) hi (by omega)
  have w5 : vp_in (nI i * 4 + 1) 3584 := by rw [ix_41]; exact vi_ (by omega) (by omega)
  refine ⟨wi, nm_r (e' := nI m) (by rw [ei, hn]) ⟨w5, nm_r (e' := y) (by rw [ix_41, e5, hy]) ?_⟩⟩
  rcases h with h | h
  · exact h _ (br_t rfl K)
  · exact h.1 _ (br_f (by decide) (h.2 _ (br_t rfl K)))
theorem x_arN {i m n1 n2 o : Nat} (hi : i < 896) (hn : fN i = nI m) (hm : m < 96) (hop : op m = nI o) (ho : o < 4) (hy : fL (i * 4 + 1) = lN (n2 + 4294967296)) (h1 : ∀ q : Int32 → Prop, q 1 → wpX_isNumber q (lN (n1 + 4294967296))) (h2 : ∀ q : Int32 → Prop, q 1 → wpX_isNumber q (lN (n2 + 4294967296))) (K : wpX_finishNumber post (xd, xg, xN, xL, xF, xV, xC, xs, ph, cr, ec, en, ft, bt, pr, op, a, b, xp, fi, xl, nx, xo, fn, fe, vn, vo, vv, xst, xf, xr, xh, xc, fN, fX, fS, fT, fL, pv) (ar_ o (nI n1) (nI n2))) : wpX_concludeArithmetic post (xd, xg, xN, xL, xF, xV, xC, xs, ph, cr, ec, en, ft, bt, pr, op, a, b, xp, fi, xl, nx, xo, fn, fe, vn, vo, vv, xst, xf, xr, xh, xc, fN, fX, fS, fT, fL, pv) (nI i) (lN (n1 + 4294967296)) := by
  have ei := nc_ (n := i) (by omega)
  have em := nc_ (n := m) (by omega)
  have e5 := nc_ (n := i * 4 + 1) (by omega)
  have wi := vi_ (n := i) (N := 896) hi (by omega)
  have wm := vi_ (n := m) (N := 96) hm (by omega)
  have w5 : vp_in (nI i * 4 + 1) 3584 := by rw [ix_41]; exact vi_ (by omega) (by omega)
  refine ⟨wi, nm_r (e' := nI m) (by rw [ei, hn]) ⟨w5, nm_r (e' := lN (n2 + 4294967296)) (by rw [ix_41, e5, hy]) (h1 _ (br_f (by decide) (h2 _ (br_f (by decide) ⟨wm, nm_r (e' := nI o) (by rw [em, hop]) ?_⟩))))⟩⟩
  rw [vo_i1, vo_i1]
  refine br_f (nI_pos (by omega)) ?_
  by_cases c3 : o = 3
  · subst c3
    refine br_t (by decide) ?_
    exact br_c (fun h => by unfold ar_ at K; rw [if_neg (by omega), if_neg (by omega), if_neg (by omega), if_pos h] at K; exact K) (fun h => by unfold ar_ at K; rw [if_neg (by omega), if_neg (by omega), if_neg (by omega), if_neg h] at K; exact K)
  refine br_f (nI_nlt (a := 2) (by omega) (by omega)) ?_
  by_cases c0 : o = 0
  · subst c0
    exact br_t rfl K
  by_cases c1 : o = 1
  · subst c1
    exact br_f (by decide) (br_t rfl K)
  · obtain rfl : o = 2 := by omega
    exact br_f (by decide) (br_f (by decide) (br_t rfl K))
theorem x_set {s h m p : Nat} {x : Int64} (hs : s < 7) (hb : h < 128) (hh : xh s = nI (h + 1)) (hn : fN (s * 128 + h) = nI m) (hm : m < 96) (hp : p < 120) (hf : ∀ q : Int32 → Prop, q (nI (p + 1)) → wpX_findVariable q (xd, xg, xN, xL, xF, xV, xC, (nI s), ph, cr, ec, en, ft, bt, pr, op, a, b, xp, fi, xl, nx, xo, fn, fe, vn, vo, vv, xst, xf, xr, xh, xc, fN, fX, fS, fT, fL, pv) (a m) (fS (s * 128 + h))) (K : post (xd, xg, xN, xL, xF, xV, xC, (nI s), (-2), x, ec, en, ft, bt, pr, op, a, b, xp, fi, xl, nx, xo, fn, fe, vn, vo, (vp_updL vv (p + 1) x), xst, xf, xr, (upd xh s (nI h)), xc, fN, fX, fS, fT, fL, pv)) : wpX_concludeSet post (xd, xg, xN, xL, xF, xV, xC, (nI s), ph, cr, ec, en, ft, bt, pr, op, a, b, xp, fi, xl, nx, xo, fn, fe, vn, vo, vv, xst, xf, xr, xh, xc, fN, fX, fS, fT, fL, pv) (nI (s * 128 + h)) x := by
  have ei := nc_ (n := s * 128 + h) (by omega)
  have em := nc_ (n := m) (by omega)
  have ep := nc_ (n := p + 1) (by omega)
  have wi := vi_ (n := s * 128 + h) (N := 896) (by omega) (by omega)
  refine ⟨wi, ?_, wi, ?_⟩
  · rw [ei, hn]; exact vi_ hm (by omega)
  · rw [ei, hn, em]
    exact hf _ ⟨vi_ (by omega) (by omega), nm_r (e' := vp_updL vv (p + 1) x) (by rw [ep]) (x_finish hs hh K)⟩
theorem x_errA {i m : Nat} {x : Int64} (hi : i < 896) (hn : fN i = nI m) (hf : ∀ q : Int32 → Prop, q 0 → wpX_isNumber q x) (K : wpX_raise post (xd, xg, xN, xL, xF, xV, xC, xs, ph, cr, ec, en, ft, bt, pr, op, a, b, xp, fi, xl, nx, xo, fn, fe, vn, vo, vv, xst, xf, xr, xh, xc, fN, fX, fS, fT, fL, pv) 1 (nI m)) : wpX_concludeError post (xd, xg, xN, xL, xF, xV, xC, xs, ph, cr, ec, en, ft, bt, pr, op, a, b, xp, fi, xl, nx, xo, fn, fe, vn, vo, vv, xst, xf, xr, xh, xc, fN, fX, fS, fT, fL, pv) (nI i) x := by
  unfold wpX_concludeError
  dsimp only
  refine hf _ (br_t rfl ⟨vi_ hi (by omega), ?_⟩)
  rw [nc_ (by omega), hn]; exact K
theorem x_errB {i m : Nat} {x : Int64} (hi : i < 896) (hn : fN i = nI m) (hf : ∀ q : Int32 → Prop, q 1 → wpX_isNumber q x) (K : wpX_raise post (xd, xg, xN, xL, xF, xV, xC, xs, ph, cr, ec, en, ft, bt, pr, op, a, b, xp, fi, xl, nx, xo, fn, fe, vn, vo, vv, xst, xf, xr, xh, xc, fN, fX, fS, fT, fL, pv) x.toInt32 (nI m)) : wpX_concludeError post (xd, xg, xN, xL, xF, xV, xC, xs, ph, cr, ec, en, ft, bt, pr, op, a, b, xp, fi, xl, nx, xo, fn, fe, vn, vo, vv, xst, xf, xr, xh, xc, fN, fX, fS, fT, fL, pv) (nI i) x := by
  unfold wpX_concludeError
  dsimp only
  refine hf _ (br_f (by decide) ⟨vi_ hi (by omega), ?_⟩)
  rw [nc_ (by omega), hn]; exact K
theorem x_prA {m : Nat} {x : Int64} (hm : m < 24) (K : wpX_finish post (xd, xg, xN, xL, xF, xV, xC, xs, ph, cr, ec, en, ft, bt, (nI (m + 1)), op, a, b, xp, fi, xl, nx, xo, fn, fe, vn, vo, vv, xst, xf, xr, xh, xc, fN, fX, fS, fT, fL, (vp_updL pv m x)) x) : wpX_concludePrint post (xd, xg, xN, xL, xF, xV, xC, xs, ph, cr, ec, en, ft, bt, (nI m), op, a, b, xp, fi, xl, nx, xo, fn, fe, vn, vo, vv, xst, xf, xr, xh, xc, fN, fX, fS, fT, fL, pv) x := by
  exact br_f (nI_ge (b := 24) hm (by omega)) ⟨vi_ hm (by omega), nm_r (e' := vp_updL pv m x) (by rw [nc_ (by omega)]) (nm_r (nI_1 m) K)⟩
theorem x_prB {m : Nat} {x : Int64} (hm : 24 ≤ m) (hm2 : m < 2147483648) (K : wpX_finish post (xd, xg, xN, xL, xF, xV, xC, xs, ph, cr, ec, en, ft, bt, (nI (m + 1)), op, a, b, xp, fi, xl, nx, xo, fn, fe, vn, vo, vv, xst, xf, xr, xh, xc, fN, fX, fS, fT, fL, pv) x) : wpX_concludePrint post (xd, xg, xN, xL, xF, xV, xC, xs, ph, cr, ec, en, ft, bt, (nI m), op, a, b, xp, fi, xl, nx, xo, fn, fe, vn, vo, vv, xst, xf, xr, xh, xc, fN, fX, fS, fT, fL, pv) x := br_t (nI_le (a := 24) hm hm2) (nm_r (nI_1 m) K)
theorem x_yieldA {i m : Nat} {x : Int64} (hi : i < 896) (hn : fN i = nI m) (K : wpX_raise post (xd, xg, xN, xL, xF, xV, xC, (nI 0), ph, cr, ec, en, ft, bt, pr, op, a, b, xp, fi, xl, nx, xo, fn, fe, vn, vo, vv, xst, xf, xr, xh, xc, fN, fX, fS, fT, fL, pv) 6 (nI m)) : wpX_concludeYield post (xd, xg, xN, xL, xF, xV, xC, (nI 0), ph, cr, ec, en, ft, bt, pr, op, a, b, xp, fi, xl, nx, xo, fn, fe, vn, vo, vv, xst, xf, xr, xh, xc, fN, fX, fS, fT, fL, pv) (nI i) x := by
  refine br_t rfl ⟨vi_ hi (by omega), ?_⟩
  rw [nc_ (by omega), hn]; exact K
theorem x_yieldB {s r h : Nat} {i : Int32} {x : Int64} (h0 : 1 ≤ s) (hs : s < 7) (hr : r < 7) (hx : xr s = nI r) (hh : xh r = nI (h + 1)) (K : post (xd, xg, xN, xL, xF, xV, xC, (nI r), (-2), x, ec, en, ft, bt, pr, op, a, b, xp, fi, xl, nx, xo, fn, fe, vn, vo, vv, (upd xst s 0), xf, xr, (upd xh r (nI h)), xc, fN, fX, fS, fT, fL, pv)) : wpX_concludeYield post (xd, xg, xN, xL, xF, xV, xC, (nI s), ph, cr, ec, en, ft, bt, pr, op, a, b, xp, fi, xl, nx, xo, fn, fe, vn, vo, vv, xst, xf, xr, xh, xc, fN, fX, fS, fT, fL, pv) i x := by
  have e := nc_ (n := s) (by omega)
  exact br_f (nI_ne0 (by omega) (by omega)) ⟨vi_ hs (by omega), nm_r (e' := upd xst s 0) (by rw [e]) (x_hb hs hr hx hh K)⟩
theorem x_statA {i m : Nat} {x : Int64} {k : Int32} (hi : i < 896) (hn : fN i = nI m) (hk : k ≠ 3) (hf : ∀ q : Int32 → Prop, q k → wpX_kindOf q x) (K : wpX_raise post (xd, xg, xN, xL, xF, xV, xC, xs, ph, cr, ec, en, ft, bt, pr, op, a, b, xp, fi, xl, nx, xo, fn, fe, vn, vo, vv, xst, xf, xr, xh, xc, fN, fX, fS, fT, fL, pv) 2 (nI m)) : wpX_concludeStatus post (xd, xg, xN, xL, xF, xV, xC, xs, ph, cr, ec, en, ft, bt, pr, op, a, b, xp, fi, xl, nx, xo, fn, fe, vn, vo, vv, xst, xf, xr, xh, xc, fN, fX, fS, fT, fL, pv) (nI i) x := by
  unfold wpX_concludeStatus
  dsimp only
  refine hf _ (br_f hk ⟨vi_ hi (by omega), ?_⟩)
  rw [nc_ (by omega), hn]; exact K
theorem x_statB {c : Nat} {i : Int32} {x : Int64} (hc : c < 6) (hx : x.toInt32 = nI (c + 1)) (hf : ∀ q : Int32 → Prop, q 3 → wpX_kindOf q x) (K : wpX_finishNumber post (xd, xg, xN, xL, xF, xV, xC, xs, ph, cr, ec, en, ft, bt, pr, op, a, b, xp, fi, xl, nx, xo, fn, fe, vn, vo, vv, xst, xf, xr, xh, xc, fN, fX, fS, fT, fL, pv) (xst (c + 1))) : wpX_concludeStatus post (xd, xg, xN, xL, xF, xV, xC, xs, ph, cr, ec, en, ft, bt, pr, op, a, b, xp, fi, xl, nx, xo, fn, fe, vn, vo, vv, xst, xf, xr, xh, xc, fN, fX, fS, fT, fL, pv) i x := by
  unfold wpX_concludeStatus
  dsimp only
  refine hf _ (br_t rfl ?_)
  rw [hx, nc_ (by omega)]
  exact ⟨vi_ (by omega) (by omega), K⟩
end
end
section
section
variable {xd xg xN xL xF xV xC xs ph : Int32} {cr : Int64} {ec en ft bt pr : Int32} {op a b xp fi xl nx xo fn fe vn vo : Nat → Int32} {vv : Nat → Int64} {xst xf xr xh xc fN fX fS fT : Nat → Int32} {fL pv : Nat → Int64}
theorem x_fnum {post : SX → Prop} {z : Int32} (K : wpX_finish post (xd, xg, xN, xL, xF, xV, xC, xs, ph, cr, ec, en, ft, bt, pr, op, a, b, xp, fi, xl, nx, xo, fn, fe, vn, vo, vv, xst, xf, xr, xh, xc, fN, fX, fS, fT, fL, pv) (lN (cv_n z + 4294967296))) : wpX_finishNumber post (xd, xg, xN, xL, xF, xV, xC, xs, ph, cr, ec, en, ft, bt, pr, op, a, b, xp, fi, xl, nx, xo, fn, fe, vn, vo, vv, xst, xf, xr, xh, xc, fN, fX, fS, fT, fL, pv) z := by
  unfold wpX_finishNumber wpX_valueOf
  dsimp only
  rw [vo_1]
  exact K
end
section
variable {op a b fi nx pa : Nat → Int32} {N : Nat} {oc pc E lv : Nat → Nat} {kd : Nat → Nat → Nat} {SC : Nat → Int32 → Prop}
variable {F C V : Nat} {D : Nat → Int32 → Prop} {K T : Nat → Nat → Nat} {fN fX fS fT : Nat → Int32} {fL : Nat → Int64} {yl ya ye : Nat → Int32} {yk : Nat → Int64} {P H : Nat → Nat} {dep : Nat} {xh xc yt yc fn fe gn ge vn vo : Nat → Int32} {vv : Nat → Int64} {wn wu : Nat → Int32} {wv : Nat → Int64} {xst xf xr yst yf yr : Nat → Int32} {Q : Nat → Nat} {k s h : Nat}
variable {fu : Nat} {xN xL : Int32} {xp xl xo : Nat → Int32} {yN yi yo : Int32} {yp : Nat → Int32}
variable {ph ec en ft : Int32} {cr gv gt : Int64} {q w φ : Nat} {pv ou : Nat → Int64} {hs : Int32}
/-- the last part's value has come: to conclude, to apply -/
theorem sA_ap {n i e : Nat} (ht : (ct_all op a b fi nx pa N oc pc E lv kd SC)) (hyp : ∀ n, n < N → xp n = nI (pc n) ∧ yp n = nI (pc n)) (h1 : (cc_C N oc pc E lv kd a b SC F C V D K T fN fX fS fT fL yl ya ye yk P H dep xh xc yt yc fn fe gn ge vn vo vv wn wu wv xst xf xr yst yf yr Q k s h)) (g1 : n < N) (g2 : oc n < 19) (g3 : i < pc n) (g4 : e ≤ V) (g5 : fN (s * 128 + h) = nI n) (g6 : fT (s * 128 + h) = nI (ct_tk (oc n) i)) (g7 : fS (s * 128 + h) = nI e) (g8 : yl (112 * s + (h + K s (h + 1) - cz_ s)) = nI n) (g9 : ya (112 * s + (h + K s (h + 1) - cz_ s)) = nI i) (g10 : ye (112 * s + (h + K s (h + 1) - cz_ s)) = nI e - 1) (g11 : ∀ c, ct_in oc a b SC n i c → D e c) (g12 : cf_S F C (oc n) i (fun q => fL ((s * 128 + h) * 4 + q)) (fun q => yk (3 * (112 * s + (h + K s (h + 1) - cz_ s)) + q))) (g13 : K s (h + 1) = K s h + (if oc n = 10 then 1 else 0)) (g14 : cz_ s ≤ K s (h + 1)) (g15 : h + 1 + K s (h + 1) ≤ 16 * K s (h + 1) + lv n + cz_ s) (hn : fX (s * 128 + h) = ct_nx pc kd n (i + 1)) (hT : T s h + 4 * (E n - E (kd n i)) + 3 ≤ T s (h + 1)) (b1 : K s (h + 1) ≤ dep) (b2 : T s (h + 1) + 2 ≤ P s) (b3 : xh s = nI (h + 1)) (b4 : yt s = nI (h + 1 + K s (h + 1) - cz_ s)) (b5 : xc s = nI (K s (h + 1))) (b6 : yc s = nI (K s (h + 1))) (hk : (cr_K φ fu q w F C P pv ou)) (hv : cv_R F C cr gt) (hd : oc n < 5 ∨ 10 < oc n ∨ oc n = 9) (hlt : i + 1 = pc n) {u1 u2 : SX} {v2 : SY} {j : Nat} (hX : ∀ post : SX → Prop, post u1 → wpX_conclude post ((nI dep), (nI fu), xN, xL, (nI F), (nI V), (nI C), (nI s), (-1), cr, ec, en, ft, (nI q), (nI w), op, a, b, xp, fi, xl, nx, xo, fn, fe, vn, vo, vv, xst, xf, xr, xh, xc, fN, fX, fS, (upd fT (s * 128 + h) (nI (i + 1))), (vp_updL fL ((s * 128 + h) * 4 + i) cr), pv) (nI (s * 128 + h))) (hj : xs_ j u1 u2) (hY : ∀ post : SY → Prop, post v2 → wpY_apply post ((nI dep), (nI fu), yN, yi, yo, (nI V), (nI F), (nI C), (nI s), ft, (nI q), 0, 0, (-1), (nI w), 1, 0, gv, gt, op, a, b, pa, fi, nx, yp, wn, wu, gn, ge, wv, yl, ya, ye, yk, yt, yc, yst, yf, yr, ou) (nI (112 * s + (h + K s (h + 1) - cz_ s))) (nI n) gt) (hT2 : cr_T op a b fi nx pa N oc pc E lv kd SC dep fu xN xL xp xl xo yN yi yo yp φ (j + 2) u2 v2) : ∃ u2 v2 kx, xs_ (kx + 1) ((nI dep), (nI fu), xN, xL, (nI F), (nI V), (nI C), (nI s), (-2), cr, ec, en, ft, (nI q), (nI w), op, a, b, xp, fi, xl, nx, xo, fn, fe, vn, vo, vv, xst, xf, xr, xh, xc, fN, fX, fS, fT, fL, pv) u2 ∧ (∀ post : SY → Prop, post v2 → wpY_deliver post ((nI dep), (nI fu), yN, yi, yo, (nI V), (nI F), (nI C), (nI s), ft, (nI q), 0, 0, (-1), (nI w), 1, 0, gv, gt, op, a, b, pa, fi, nx, yp, wn, wu, gn, ge, wv, yl, ya, ye, yk, yt, yc, yst, yf, yr, ou) gt) ∧ cr_T op a b fi nx pa N oc pc E lv kd SC dep fu xN xL xp xl xo yN yi yo yp φ (kx + 1) u2 v2 := by
  have h7 := (cc_s h1).2
  have h6 := cc_dep h1
  have hKK : K s h ≤ K s (h + 1) := by omega
  have hh := cf_h ht (cc_FR h1) (by omega)
  have hN := ht.2.1
  have hl := (ht.2.2.2.2 n g1).2.2.2.1.2 (by omega)
  have hzl := cz_le s
  have hw : h + K s (h + 1) - cz_ s < 112 := by omega
  have o_ : op n = nI (oc n) := ct_op ht g1 rfl
  have b4' : yt s = nI (h + K s (h + 1) - cz_ s + 1) := by rw [b4]; exact congrArg nI (by omega)
  have hpn := (ht.2.2.2.2 n g1).1.2.2.2
  have yp_ := (hyp n g1).2
  have hEn := ct_E ht g1
  have hkd := (ht.2.2.2.2 n g1).2.2.2.2.2.1
  have h5 : ct_tk (oc n) i = i := ct_tkn (by omega)
  have hmx := Nat.le_trans (ct_mn' ht g1).2 (ct_mxD hd)
  rw [h5] at g6
  have hx := hn.trans (ct_nxe (kd := kd) (show ¬ i + 1 < pc n by omega))
  refine ⟨u2, v2, j + 1, ?_, fun post K => y_Dl h7 b4' hw g8 (by omega) g9 yp_ (by omega) (by omega) o_ hlt hd (by omega) (Or.inr hlt) (hY post K), hT2⟩
  have := xs_t (xs_t (xs_d (fun post K => x_del h7 (by omega) b3 (x_takeD h7 (by omega) b3 g5 (by omega) o_ (by omega) g6 hd (by omega) K))) (xs_a (fun post K => x_adv1 h7 b3 (by omega) hx (hX post K)))) hj
  rw [show j + 1 + 1 = 1 + 1 + j by omega]
  exact this
/-- the top frame has taken its last value -/
theorem cc_tk {n i : Nat} {x : Int64} (ht : (ct_all op a b fi nx pa N oc pc E lv kd SC)) (h1 : (cc_C N oc pc E lv kd a b SC F C V D K T fN fX fS fT fL yl ya ye yk P H dep xh xc yt yc fn fe gn ge vn vo vv wn wu wv xst xf xr yst yf yr Q k s h)) (hK : K s h ≤ dep) (hi : i < 4) : (cc_C N oc pc E lv kd a b SC F C V D K T fN fX fS (upd fT (s * 128 + h) (nI (i + 1))) (vp_updL fL ((s * 128 + h) * 4 + i) x) yl ya ye yk P H dep xh xc yt yc fn fe gn ge vn vo vv wn wu wv xst xf xr yst yf yr Q k s h) := by
  have h7 := (cc_s h1).2
  have h6 := cc_dep h1
  have hh := cf_h ht (cc_FR h1) (by omega)
  exact cc_fr ht h1 (by omega) (by omega) (fun _ _ _ => rfl) (fun _ _ _ => rfl) ca_r ca_r ca_r (ca_u ca_r (by omega) (by omega)) (ca_l ca_r (by omega) (by omega)) ca_r ca_r ca_r ca_r ca_r ca_r ca_r ca_r ca_r
/-- both sides finish with a value -/
theorem sA_pop {n i e : Nat} (ht : (ct_all op a b fi nx pa N oc pc E lv kd SC)) (hyp : ∀ n, n < N → xp n = nI (pc n) ∧ yp n = nI (pc n)) (h1 : (cc_C N oc pc E lv kd a b SC F C V D K T fN fX fS fT fL yl ya ye yk P H dep xh xc yt yc fn fe gn ge vn vo vv wn wu wv xst xf xr yst yf yr Q k s h)) (g1 : n < N) (g2 : oc n < 19) (g3 : i < pc n) (g4 : e ≤ V) (g5 : fN (s * 128 + h) = nI n) (g6 : fT (s * 128 + h) = nI (ct_tk (oc n) i)) (g7 : fS (s * 128 + h) = nI e) (g8 : yl (112 * s + (h + K s (h + 1) - cz_ s)) = nI n) (g9 : ya (112 * s + (h + K s (h + 1) - cz_ s)) = nI i) (g10 : ye (112 * s + (h + K s (h + 1) - cz_ s)) = nI e - 1) (g11 : ∀ c, ct_in oc a b SC n i c → D e c) (g12 : cf_S F C (oc n) i (fun q => fL ((s * 128 + h) * 4 + q)) (fun q => yk (3 * (112 * s + (h + K s (h + 1) - cz_ s)) + q))) (g13 : K s (h + 1) = K s h + (if oc n = 10 then 1 else 0)) (g14 : cz_ s ≤ K s (h + 1)) (g15 : h + 1 + K s (h + 1) ≤ 16 * K s (h + 1) + lv n + cz_ s) (hn : fX (s * 128 + h) = ct_nx pc kd n (i + 1)) (hT : T s h + 4 * (E n - E (kd n i)) + 3 ≤ T s (h + 1)) (b1 : K s (h + 1) ≤ dep) (b2 : T s (h + 1) + 2 ≤ P s) (b3 : xh s = nI (h + 1)) (b4 : yt s = nI (h + 1 + K s (h + 1) - cz_ s)) (b5 : xc s = nI (K s (h + 1))) (b6 : yc s = nI (K s (h + 1))) (hk : (cr_K φ fu q w F C P pv ou)) (hv : cv_R F C cr gt) (hd : oc n < 5 ∨ 10 < oc n ∨ oc n = 9) (hlt : i + 1 = pc n) {x y : Int64} (hX : ∀ post : SX → Prop, wpX_finish post ((nI dep), (nI fu), xN, xL, (nI F), (nI V), (nI C), (nI s), (-1), cr, ec, en, ft, (nI q), (nI w), op, a, b, xp, fi, xl, nx, xo, fn, fe, vn, vo, vv, xst, xf, xr, xh, xc, fN, fX, fS, (upd fT (s * 128 + h) (nI (i + 1))), (vp_updL fL ((s * 128 + h) * 4 + i) cr), pv) x → wpX_conclude post ((nI dep), (nI fu), xN, xL, (nI F), (nI V), (nI C), (nI s), (-1), cr, ec, en, ft, (nI q), (nI w), op, a, b, xp, fi, xl, nx, xo, fn, fe, vn, vo, vv, xst, xf, xr, xh, xc, fN, fX, fS, (upd fT (s * 128 + h) (nI (i + 1))), (vp_updL fL ((s * 128 + h) * 4 + i) cr), pv) (nI (s * 128 + h))) (hY : ∀ post : SY → Prop, wpY_finish post ((nI dep), (nI fu), yN, yi, yo, (nI V), (nI F), (nI C), (nI s), ft, (nI q), 0, 0, (-1), (nI w), 1, 0, gv, gt, op, a, b, pa, fi, nx, yp, wn, wu, gn, ge, wv, yl, ya, ye, yk, yt, yc, yst, yf, yr, ou) y → wpY_apply post ((nI dep), (nI fu), yN, yi, yo, (nI V), (nI F), (nI C), (nI s), ft, (nI q), 0, 0, (-1), (nI w), 1, 0, gv, gt, op, a, b, pa, fi, nx, yp, wn, wu, gn, ge, wv, yl, ya, ye, yk, yt, yc, yst, yf, yr, ou) (nI (112 * s + (h + K s (h + 1) - cz_ s))) (nI n) gt) (hv2 : cv_R F C x y) : ∃ u2 v2 kx, xs_ (kx + 1) ((nI dep), (nI fu), xN, xL, (nI F), (nI V), (nI C), (nI s), (-2), cr, ec, en, ft, (nI q), (nI w), op, a, b, xp, fi, xl, nx, xo, fn, fe, vn, vo, vv, xst, xf, xr, xh, xc, fN, fX, fS, fT, fL, pv) u2 ∧ (∀ post : SY → Prop, post v2 → wpY_deliver post ((nI dep), (nI fu), yN, yi, yo, (nI V), (nI F), (nI C), (nI s), ft, (nI q), 0, 0, (-1), (nI w), 1, 0, gv, gt, op, a, b, pa, fi, nx, yp, wn, wu, gn, ge, wv, yl, ya, ye, yk, yt, yc, yst, yf, yr, ou) gt) ∧ cr_T op a b fi nx pa N oc pc E lv kd SC dep fu xN xL xp xl xo yN yi yo yp φ (kx + 1) u2 v2 := by
  have hmx := Nat.le_trans (ct_mn' ht g1).2 (ct_mxD hd)
  have h7 := (cc_s h1).2
  have h6 := cc_dep h1
  have hKK : K s h ≤ K s (h + 1) := by omega
  have hh := cf_h ht (cc_FR h1) (by omega)
  have hN := ht.2.1
  have hl := (ht.2.2.2.2 n g1).2.2.2.1.2 (by omega)
  have hzl := cz_le s
  have hw : h + K s (h + 1) - cz_ s < 112 := by omega
  have o_ : op n = nI (oc n) := ct_op ht g1 rfl
  have b4' : yt s = nI (h + K s (h + 1) - cz_ s + 1) := by rw [b4]; exact congrArg nI (by omega)
  have hpn := (ht.2.2.2.2 n g1).1.2.2.2
  have yp_ := (hyp n g1).2
  have hEn := ct_E ht g1
  have hkd := (ht.2.2.2.2 n g1).2.2.2.2.2.1
  have h10 : oc n ≠ 10 := by omega
  have hK0 : K s (h + 1) = K s h := by rw [g13, if_neg h10]; rfl
  have b4p : yt s = nI (h + K s h - cz_ s + 1) := by rw [← hK0]; exact b4'
  have g8p : yl (112 * s + (h + K s h - cz_ s)) = nI n := by rw [← hK0]; exact g8
  have b1p : K s h ≤ dep := by omega
  have b5p : xc s = nI (K s h) := by rw [← hK0]; exact b5
  have b6p : yc s = nI (K s h) := by rw [← hK0]; exact b6
  have hwp : h + K s h - cz_ s < 112 := by omega
  have hsh : 1 ≤ s → 1 ≤ h := fun hs1 => by
    have z1 := cz_1 hs1
    rcases Nat.eq_zero_or_pos h with hz | hz
    · subst hz
      have := h1.2.1 s
      omega
    · exact hz
  have h2 := cc_tk (n := n) (i := i) (x := cr) ht h1 b1p (by omega)
  exact sA_ap ht hyp h1 g1 g2 g3 g4 g5 g6 g7 g8 g9 g10 g11 g12 g13 g14 g15 hn hT b1 b2 b3 b4 b5 b6 hk hv hd hlt (fun post K => hX post (x_finish h7 b3 K)) (xs_0 _) (fun post K => hY post (y_finish h7 b4p hwp g8p (by omega) o_ (by omega) h10 K)) (cr_pop ht h2 b1p b5p b6p hsh hk (by omega) hv2)
/-- both sides raise an error -/
theorem sA_raise {n i e : Nat} (ht : (ct_all op a b fi nx pa N oc pc E lv kd SC)) (hyp : ∀ n, n < N → xp n = nI (pc n) ∧ yp n = nI (pc n)) (h1 : (cc_C N oc pc E lv kd a b SC F C V D K T fN fX fS fT fL yl ya ye yk P H dep xh xc yt yc fn fe gn ge vn vo vv wn wu wv xst xf xr yst yf yr Q k s h)) (g1 : n < N) (g2 : oc n < 19) (g3 : i < pc n) (g4 : e ≤ V) (g5 : fN (s * 128 + h) = nI n) (g6 : fT (s * 128 + h) = nI (ct_tk (oc n) i)) (g7 : fS (s * 128 + h) = nI e) (g8 : yl (112 * s + (h + K s (h + 1) - cz_ s)) = nI n) (g9 : ya (112 * s + (h + K s (h + 1) - cz_ s)) = nI i) (g10 : ye (112 * s + (h + K s (h + 1) - cz_ s)) = nI e - 1) (g11 : ∀ c, ct_in oc a b SC n i c → D e c) (g12 : cf_S F C (oc n) i (fun q => fL ((s * 128 + h) * 4 + q)) (fun q => yk (3 * (112 * s + (h + K s (h + 1) - cz_ s)) + q))) (g13 : K s (h + 1) = K s h + (if oc n = 10 then 1 else 0)) (g14 : cz_ s ≤ K s (h + 1)) (g15 : h + 1 + K s (h + 1) ≤ 16 * K s (h + 1) + lv n + cz_ s) (hn : fX (s * 128 + h) = ct_nx pc kd n (i + 1)) (hT : T s h + 4 * (E n - E (kd n i)) + 3 ≤ T s (h + 1)) (b1 : K s (h + 1) ≤ dep) (b2 : T s (h + 1) + 2 ≤ P s) (b3 : xh s = nI (h + 1)) (b4 : yt s = nI (h + 1 + K s (h + 1) - cz_ s)) (b5 : xc s = nI (K s (h + 1))) (b6 : yc s = nI (K s (h + 1))) (hk : (cr_K φ fu q w F C P pv ou)) (hv : cv_R F C cr gt) (hd : oc n < 5 ∨ 10 < oc n ∨ oc n = 9) (hlt : i + 1 = pc n) (code : Int32) (hX : ∀ post : SX → Prop, wpX_raise post ((nI dep), (nI fu), xN, xL, (nI F), (nI V), (nI C), (nI s), (-1), cr, ec, en, ft, (nI q), (nI w), op, a, b, xp, fi, xl, nx, xo, fn, fe, vn, vo, vv, xst, xf, xr, xh, xc, fN, fX, fS, (upd fT (s * 128 + h) (nI (i + 1))), (vp_updL fL ((s * 128 + h) * 4 + i) cr), pv) code (nI n) → wpX_conclude post ((nI dep), (nI fu), xN, xL, (nI F), (nI V), (nI C), (nI s), (-1), cr, ec, en, ft, (nI q), (nI w), op, a, b, xp, fi, xl, nx, xo, fn, fe, vn, vo, vv, xst, xf, xr, xh, xc, fN, fX, fS, (upd fT (s * 128 + h) (nI (i + 1))), (vp_updL fL ((s * 128 + h) * 4 + i) cr), pv) (nI (s * 128 + h))) (hY : ∀ post : SY → Prop, wpY_raise post ((nI dep), (nI fu), yN, yi, yo, (nI V), (nI F), (nI C), (nI s), ft, (nI q), 0, 0, (-1), (nI w), 1, 0, gv, gt, op, a, b, pa, fi, nx, yp, wn, wu, gn, ge, wv, yl, ya, ye, yk, yt, yc, yst, yf, yr, ou) code (nI n) → wpY_apply post ((nI dep), (nI fu), yN, yi, yo, (nI V), (nI F), (nI C), (nI s), ft, (nI q), 0, 0, (-1), (nI w), 1, 0, gv, gt, op, a, b, pa, fi, nx, yp, wn, wu, gn, ge, wv, yl, ya, ye, yk, yt, yc, yst, yf, yr, ou) (nI (112 * s + (h + K s (h + 1) - cz_ s))) (nI n) gt) : ∃ u2 v2 kx, xs_ (kx + 1) ((nI dep), (nI fu), xN, xL, (nI F), (nI V), (nI C), (nI s), (-2), cr, ec, en, ft, (nI q), (nI w), op, a, b, xp, fi, xl, nx, xo, fn, fe, vn, vo, vv, xst, xf, xr, xh, xc, fN, fX, fS, fT, fL, pv) u2 ∧ (∀ post : SY → Prop, post v2 → wpY_deliver post ((nI dep), (nI fu), yN, yi, yo, (nI V), (nI F), (nI C), (nI s), ft, (nI q), 0, 0, (-1), (nI w), 1, 0, gv, gt, op, a, b, pa, fi, nx, yp, wn, wu, gn, ge, wv, yl, ya, ye, yk, yt, yc, yst, yf, yr, ou) gt) ∧ cr_T op a b fi nx pa N oc pc E lv kd SC dep fu xN xL xp xl xo yN yi yo yp φ (kx + 1) u2 v2 := by
  have hmx := Nat.le_trans (ct_mn' ht g1).2 (ct_mxD hd)
  have h7 := (cc_s h1).2
  have h6 := cc_dep h1
  have hKK : K s h ≤ K s (h + 1) := by omega
  have hh := cf_h ht (cc_FR h1) (by omega)
  have hN := ht.2.1
  have hl := (ht.2.2.2.2 n g1).2.2.2.1.2 (by omega)
  have hzl := cz_le s
  have hw : h + K s (h + 1) - cz_ s < 112 := by omega
  have o_ : op n = nI (oc n) := ct_op ht g1 rfl
  have b4' : yt s = nI (h + K s (h + 1) - cz_ s + 1) := by rw [b4]; exact congrArg nI (by omega)
  have hpn := (ht.2.2.2.2 n g1).1.2.2.2
  have yp_ := (hyp n g1).2
  have hEn := ct_E ht g1
  have hkd := (ht.2.2.2.2 n g1).2.2.2.2.2.1
  have h10 : oc n ≠ 10 := by omega
  have hK0 : K s (h + 1) = K s h := by rw [g13, if_neg h10]; rfl
  have b4p : yt s = nI (h + K s h - cz_ s + 1) := by rw [← hK0]; exact b4'
  have g8p : yl (112 * s + (h + K s h - cz_ s)) = nI n := by rw [← hK0]; exact g8
  have b1p : K s h ≤ dep := by omega
  have b5p : xc s = nI (K s h) := by rw [← hK0]; exact b5
  have b6p : yc s = nI (K s h) := by rw [← hK0]; exact b6
  have hwp : h + K s h - cz_ s < 112 := by omega
  have hsh : 1 ≤ s → 1 ≤ h := fun hs1 => by
    have z1 := cz_1 hs1
    rcases Nat.eq_zero_or_pos h with hz | hz
    · subst hz
      have := h1.2.1 s
      omega
    · exact hz
  have h2 := cc_tk (n := n) (i := i) (x := cr) ht h1 b1p (by omega)
  have hφ2 : P s ≤ φ := by have h3 := sm_le (f := P) 7 h7; have h4 := hk.1.2.2.1; omega
  obtain ⟨u', v', gX, gY, gT⟩ := cr_raise (d := 2) (ph := -1) (hs := 0) (cr := cr) (gt := gt) (gv := gv) (ec := ec) (en := en) (ft := ft) (xN := xN) (xL := xL) (xp := xp) (xl := xl) (xo := xo) (yN := yN) (yi := yi) (yo := yo) (yp := yp) ht h2 b1p hk (by omega) (by omega) code (nI n)
  exact sA_ap ht hyp h1 g1 g2 g3 g4 g5 g6 g7 g8 g9 g10 g11 g12 g13 g14 g15 hn hT b1 b2 b3 b4 b5 b6 hk hv hd hlt (fun post K => hX post (gX post K)) (xs_0 _) (fun post K => hY post (gY post K)) gT
theorem sA_arith {n i e : Nat} (ht : (ct_all op a b fi nx pa N oc pc E lv kd SC)) (hyp : ∀ n, n < N → xp n = nI (pc n) ∧ yp n = nI (pc n)) (h1 : (cc_C N oc pc E lv kd a b SC F C V D K T fN fX fS fT fL yl ya ye yk P H dep xh xc yt yc fn fe gn ge vn vo vv wn wu wv xst xf xr yst yf yr Q k s h)) (g1 : n < N) (g2 : oc n < 19) (g3 : i < pc n) (g4 : e ≤ V) (g5 : fN (s * 128 + h) = nI n) (g6 : fT (s * 128 + h) = nI (ct_tk (oc n) i)) (g7 : fS (s * 128 + h) = nI e) (g8 : yl (112 * s + (h + K s (h + 1) - cz_ s)) = nI n) (g9 : ya (112 * s + (h + K s (h + 1) - cz_ s)) = nI i) (g10 : ye (112 * s + (h + K s (h + 1) - cz_ s)) = nI e - 1) (g11 : ∀ c, ct_in oc a b SC n i c → D e c) (g12 : cf_S F C (oc n) i (fun q => fL ((s * 128 + h) * 4 + q)) (fun q => yk (3 * (112 * s + (h + K s (h + 1) - cz_ s)) + q))) (g13 : K s (h + 1) = K s h + (if oc n = 10 then 1 else 0)) (g14 : cz_ s ≤ K s (h + 1)) (g15 : h + 1 + K s (h + 1) ≤ 16 * K s (h + 1) + lv n + cz_ s) (hn : fX (s * 128 + h) = ct_nx pc kd n (i + 1)) (hT : T s h + 4 * (E n - E (kd n i)) + 3 ≤ T s (h + 1)) (b1 : K s (h + 1) ≤ dep) (b2 : T s (h + 1) + 2 ≤ P s) (b3 : xh s = nI (h + 1)) (b4 : yt s = nI (h + 1 + K s (h + 1) - cz_ s)) (b5 : xc s = nI (K s (h + 1))) (b6 : yc s = nI (K s (h + 1))) (hk : (cr_K φ fu q w F C P pv ou)) (hv : cv_R F C cr gt) (hd : oc n < 4) : ∃ u2 v2 kx, xs_ (kx + 1) ((nI dep), (nI fu), xN, xL, (nI F), (nI V), (nI C), (nI s), (-2), cr, ec, en, ft, (nI q), (nI w), op, a, b, xp, fi, xl, nx, xo, fn, fe, vn, vo, vv, xst, xf, xr, xh, xc, fN, fX, fS, fT, fL, pv) u2 ∧ (∀ post : SY → Prop, post v2 → wpY_deliver post ((nI dep), (nI fu), yN, yi, yo, (nI V), (nI F), (nI C), (nI s), ft, (nI q), 0, 0, (-1), (nI w), 1, 0, gv, gt, op, a, b, pa, fi, nx, yp, wn, wu, gn, ge, wv, yl, ya, ye, yk, yt, yc, yst, yf, yr, ou) gt) ∧ cr_T op a b fi nx pa N oc pc E lv kd SC dep fu xN xL xp xl xo yN yi yo yp φ (kx + 1) u2 v2 := by
  have h7 := (cc_s h1).2
  have h6 := cc_dep h1
  have hKK : K s h ≤ K s (h + 1) := by omega
  have hh := cf_h ht (cc_FR h1) (by omega)
  have hN := ht.2.1
  have hl := (ht.2.2.2.2 n g1).2.2.2.1.2 (by omega)
  have hzl := cz_le s
  have hw : h + K s (h + 1) - cz_ s < 112 := by omega
  have o_ : op n = nI (oc n) := ct_op ht g1 rfl
  have b4' : yt s = nI (h + K s (h + 1) - cz_ s + 1) := by rw [b4]; exact congrArg nI (by omega)
  have hpn := (ht.2.2.2.2 n g1).1.2.2.2
  have yp_ := (hyp n g1).2
  have hEn := ct_E ht g1
  have hkd := (ht.2.2.2.2 n g1).2.2.2.2.2.1
  have h10 : oc n ≠ 10 := by omega
  have hK0 : K s (h + 1) = K s h := by rw [g13, if_neg h10]; rfl
  have b4p : yt s = nI (h + K s h - cz_ s + 1) := by rw [← hK0]; exact b4'
  have g8p : yl (112 * s + (h + K s h - cz_ s)) = nI n := by rw [← hK0]; exact g8
  have b1p : K s h ≤ dep := by omega
  have b5p : xc s = nI (K s h) := by rw [← hK0]; exact b5
  have b6p : yc s = nI (K s h) := by rw [← hK0]; exact b6
  have hwp : h + K s h - cz_ s < 112 := by omega
  have hsh : 1 ≤ s → 1 ≤ h := fun hs1 => by
    have z1 := cz_1 hs1
    rcases Nat.eq_zero_or_pos h with hz | hz
    · subst hz
      have := h1.2.1 s
      omega
    · exact hz
  have hp2 : pc n = 2 := by
    have h3 := ct_mn' ht g1
    have e1 : ct_mx (oc n) = 2 := if_pos (Or.inl (by omega))
    have e2 : ct_mn (oc n) = 2 := by unfold ct_mn; rw [if_neg (by omega), if_neg (by omega)]; exact e1
    omega
  have hφ2 : P s ≤ φ := by have h3 := sm_le (f := P) 7 h7; have h4 := hk.1.2.2.1; omega
  by_cases hlt : i + 1 < pc n
  · exact sA_Dn ht hyp h1 g1 g2 g3 g4 g5 g6 g7 g8 g9 g10 g11 g12 g13 g14 g15 hn hT b1 b2 b3 b4 b5 b6 hk hv (Or.inl (by omega)) hlt
  obtain rfl : i = 1 := by omega
  have h2 := cc_tk (n := n) (i := 1) (x := cr) ht h1 b1p (by omega)
  have hv0 : cv_R F C (fL ((s * 128 + h) * 4)) (yk (3 * (112 * s + (h + K s (h + 1) - cz_ s)))) := g12.2 (by omega) 0 (by omega) (by omega)
  have xC : ∀ post : SX → Prop, wpX_concludeArithmetic post ((nI dep), (nI fu), xN, xL, (nI F), (nI V), (nI C), (nI s), (-1), cr, ec, en, ft, (nI q), (nI w), op, a, b, xp, fi, xl, nx, xo, fn, fe, vn, vo, vv, xst, xf, xr, xh, xc, fN, fX, fS, (upd fT (s * 128 + h) (nI (1 + 1))), (vp_updL fL ((s * 128 + h) * 4 + 1) cr), pv) (nI (s * 128 + h)) (fL ((s * 128 + h) * 4)) → wpX_conclude post ((nI dep), (nI fu), xN, xL, (nI F), (nI V), (nI C), (nI s), (-1), cr, ec, en, ft, (nI q), (nI w), op, a, b, xp, fi, xl, nx, xo, fn, fe, vn, vo, vv, xst, xf, xr, xh, xc, fN, fX, fS, (upd fT (s * 128 + h) (nI (1 + 1))), (vp_updL fL ((s * 128 + h) * 4 + 1) cr), pv) (nI (s * 128 + h)) := by
    intro post K
    have e0 : vp_updL fL ((s * 128 + h) * 4 + 1) cr ((s * 128 + h) * 4) = fL ((s * 128 + h) * 4) := pk_uLn (by omega)
    rw [← e0] at K
    have c4 : oc n = 0 ∨ oc n = 1 ∨ oc n = 2 ∨ oc n = 3 := by omega
    rcases c4 with c | c | c | c
    · exact x_c0 h7 (by omega) g5 (by omega) (o_.trans (by rw [c]; rfl)) K
    · exact x_c1 h7 (by omega) g5 (by omega) (o_.trans (by rw [c]; rfl)) K
    · exact x_c2 h7 (by omega) g5 (by omega) (o_.trans (by rw [c]; rfl)) K
    · exact x_c3 h7 (by omega) g5 (by omega) (o_.trans (by rw [c]; rfl)) K
  have yC : ∀ post : SY → Prop, wpY_arithmetic post ((nI dep), (nI fu), yN, yi, yo, (nI V), (nI F), (nI C), (nI s), ft, (nI q), 0, 0, (-1), (nI w), 1, 0, gv, gt, op, a, b, pa, fi, nx, yp, wn, wu, gn, ge, wv, yl, ya, ye, yk, yt, yc, yst, yf, yr, ou) (nI n) (nI (oc n)) (yk (3 * (112 * s + (h + K s (h + 1) - cz_ s)))) gt → wpY_apply post ((nI dep), (nI fu), yN, yi, yo, (nI V), (nI F), (nI C), (nI s), ft, (nI q), 0, 0, (-1), (nI w), 1, 0, gv, gt, op, a, b, pa, fi, nx, yp, wn, wu, gn, ge, wv, yl, ya, ye, yk, yt, yc, yst, yf, yr, ou) (nI (112 * s + (h + K s (h + 1) - cz_ s))) (nI n) gt := by
    intro post K
    have c4 : oc n = 0 ∨ oc n = 1 ∨ oc n = 2 ∨ oc n = 3 := by omega
    rcases c4 with c | c | c | c
    · rw [c] at K; exact y_a0 h7 hw (by omega) (o_.trans (by rw [c]; rfl)) K
    · rw [c] at K; exact y_a1 h7 hw (by omega) (o_.trans (by rw [c]; rfl)) K
    · rw [c] at K; exact y_a2 h7 hw (by omega) (o_.trans (by rw [c]; rfl)) K
    · rw [c] at K; exact y_a3 h7 hw (by omega) (o_.trans (by rw [c]; rfl)) K
  have A : (∀ post : SX → Prop, wpX_raise post ((nI dep), (nI fu), xN, xL, (nI F), (nI V), (nI C), (nI s), (-1), cr, ec, en, ft, (nI q), (nI w), op, a, b, xp, fi, xl, nx, xo, fn, fe, vn, vo, vv, xst, xf, xr, xh, xc, fN, fX, fS, (upd fT (s * 128 + h) (nI (1 + 1))), (vp_updL fL ((s * 128 + h) * 4 + 1) cr), pv) 1 (nI n) → wpX_concludeArithmetic post ((nI dep), (nI fu), xN, xL, (nI F), (nI V), (nI C), (nI s), (-1), cr, ec, en, ft, (nI q), (nI w), op, a, b, xp, fi, xl, nx, xo, fn, fe, vn, vo, vv, xst, xf, xr, xh, xc, fN, fX, fS, (upd fT (s * 128 + h) (nI (1 + 1))), (vp_updL fL ((s * 128 + h) * 4 + 1) cr), pv) (nI (s * 128 + h)) (fL ((s * 128 + h) * 4))) → (∀ post : SY → Prop, wpY_raise post ((nI dep), (nI fu), yN, yi, yo, (nI V), (nI F), (nI C), (nI s), ft, (nI q), 0, 0, (-1), (nI w), 1, 0, gv, gt, op, a, b, pa, fi, nx, yp, wn, wu, gn, ge, wv, yl, ya, ye, yk, yt, yc, yst, yf, yr, ou) 1 (nI n) → wpY_arithmetic post ((nI dep), (nI fu), yN, yi, yo, (nI V), (nI F), (nI C), (nI s), ft, (nI q), 0, 0, (-1), (nI w), 1, 0, gv, gt, op, a, b, pa, fi, nx, yp, wn, wu, gn, ge, wv, yl, ya, ye, yk, yt, yc, yst, yf, yr, ou) (nI n) (nI (oc n)) (yk (3 * (112 * s + (h + K s (h + 1) - cz_ s)))) gt) → ∃ u2 v2 kx, xs_ (kx + 1) ((nI dep), (nI fu), xN, xL, (nI F), (nI V), (nI C), (nI s), (-2), cr, ec, en, ft, (nI q), (nI w), op, a, b, xp, fi, xl, nx, xo, fn, fe, vn, vo, vv, xst, xf, xr, xh, xc, fN, fX, fS, fT, fL, pv) u2 ∧ (∀ post : SY → Prop, post v2 → wpY_deliver post ((nI dep), (nI fu), yN, yi, yo, (nI V), (nI F), (nI C), (nI s), ft, (nI q), 0, 0, (-1), (nI w), 1, 0, gv, gt, op, a, b, pa, fi, nx, yp, wn, wu, gn, ge, wv, yl, ya, ye, yk, yt, yc, yst, yf, yr, ou) gt) ∧ cr_T op a b fi nx pa N oc pc E lv kd SC dep fu xN xL xp xl xo yN yi yo yp φ (kx + 1) u2 v2 := fun a1 a2 =>
    sA_raise ht hyp h1 g1 g2 g3 g4 g5 g6 g7 g8 g9 g10 g11 g12 g13 g14 g15 hn hT b1 b2 b3 b4 b5 b6 hk hv (Or.inl (by omega)) (by omega) 1 (fun post K => xC post (a1 post K)) (fun post K => yC post (a2 post K))
  rcases xy_num h1.1.1 h1.1.2.1 hv0 with ⟨m1, c1, c2, c3, c4, c5⟩ | ⟨c4, c5⟩
  · rcases xy_num h1.1.1 h1.1.2.1 hv with ⟨m2, d1, d2, d3, d4, d5⟩ | ⟨d4, d5⟩
    · refine sA_pop ht hyp h1 g1 g2 g3 g4 g5 g6 g7 g8 g9 g10 g11 g12 g13 g14 g15 hn hT b1 b2 b3 b4 b5 b6 hk hv (Or.inl (by omega)) (by omega) (x := lN (cv_n (ar_ (oc n) (nI m1) (nI m2)) + 4294967296)) (y := lN (cv_n (ar_ (oc n) (nI m1) (nI m2)))) (fun post K => xC post ?_) (fun post KK => yC post ?_) (cv_num _)
      · rw [c2]
        rw [c2] at c4
        rw [d2] at d4
        exact x_arN (by omega) g5 (by omega) o_ hd (by rw [pk_uLs, d2]) c4 d4 (x_fnum K)
      · have y1 : yk (3 * (112 * s + (h + K s (h + 1) - cz_ s))) = lN m1 := c3
        rw [y1]
        rw [y1] at c5
        have K2 := y_arN (n := n) hd (fun q hq => c5 q _ hq) (fun q hq => by rw [← d3]; exact d5 q _ hq) KK
        rw [← d3] at K2
        exact K2
    · exact A (fun post K => x_arR (by omega) g5 pk_uLs (Or.inr ⟨c4, d4⟩) K) (fun post K => y_arR (Or.inr ⟨fun q hq => c5 q _ hq, fun q hq => d5 q _ hq⟩) K)
  · exact A (fun post K => x_arR (by omega) g5 pk_uLs (Or.inl c4) K) (fun post K => y_arR (Or.inl (fun q hq => c5 q _ hq)) K)
theorem sA_same {n i e : Nat} (ht : (ct_all op a b fi nx pa N oc pc E lv kd SC)) (hyp : ∀ n, n < N → xp n = nI (pc n) ∧ yp n = nI (pc n)) (h1 : (cc_C N oc pc E lv kd a b SC F C V D K T fN fX fS fT fL yl ya ye yk P H dep xh xc yt yc fn fe gn ge vn vo vv wn wu wv xst xf xr yst yf yr Q k s h)) (g1 : n < N) (g2 : oc n < 19) (g3 : i < pc n) (g4 : e ≤ V) (g5 : fN (s * 128 + h) = nI n) (g6 : fT (s * 128 + h) = nI (ct_tk (oc n) i)) (g7 : fS (s * 128 + h) = nI e) (g8 : yl (112 * s + (h + K s (h + 1) - cz_ s)) = nI n) (g9 : ya (112 * s + (h + K s (h + 1) - cz_ s)) = nI i) (g10 : ye (112 * s + (h + K s (h + 1) - cz_ s)) = nI e - 1) (g11 : ∀ c, ct_in oc a b SC n i c → D e c) (g12 : cf_S F C (oc n) i (fun q => fL ((s * 128 + h) * 4 + q)) (fun q => yk (3 * (112 * s + (h + K s (h + 1) - cz_ s)) + q))) (g13 : K s (h + 1) = K s h + (if oc n = 10 then 1 else 0)) (g14 : cz_ s ≤ K s (h + 1)) (g15 : h + 1 + K s (h + 1) ≤ 16 * K s (h + 1) + lv n + cz_ s) (hn : fX (s * 128 + h) = ct_nx pc kd n (i + 1)) (hT : T s h + 4 * (E n - E (kd n i)) + 3 ≤ T s (h + 1)) (b1 : K s (h + 1) ≤ dep) (b2 : T s (h + 1) + 2 ≤ P s) (b3 : xh s = nI (h + 1)) (b4 : yt s = nI (h + 1 + K s (h + 1) - cz_ s)) (b5 : xc s = nI (K s (h + 1))) (b6 : yc s = nI (K s (h + 1))) (hk : (cr_K φ fu q w F C P pv ou)) (hv : cv_R F C cr gt) (hd : oc n = 4) : ∃ u2 v2 kx, xs_ (kx + 1) ((nI dep), (nI fu), xN, xL, (nI F), (nI V), (nI C), (nI s), (-2), cr, ec, en, ft, (nI q), (nI w), op, a, b, xp, fi, xl, nx, xo, fn, fe, vn, vo, vv, xst, xf, xr, xh, xc, fN, fX, fS, fT, fL, pv) u2 ∧ (∀ post : SY → Prop, post v2 → wpY_deliver post ((nI dep), (nI fu), yN, yi, yo, (nI V), (nI F), (nI C), (nI s), ft, (nI q), 0, 0, (-1), (nI w), 1, 0, gv, gt, op, a, b, pa, fi, nx, yp, wn, wu, gn, ge, wv, yl, ya, ye, yk, yt, yc, yst, yf, yr, ou) gt) ∧ cr_T op a b fi nx pa N oc pc E lv kd SC dep fu xN xL xp xl xo yN yi yo yp φ (kx + 1) u2 v2 := by
  have h7 := (cc_s h1).2
  have h6 := cc_dep h1
  have hKK : K s h ≤ K s (h + 1) := by omega
  have hh := cf_h ht (cc_FR h1) (by omega)
  have hN := ht.2.1
  have hl := (ht.2.2.2.2 n g1).2.2.2.1.2 (by omega)
  have hzl := cz_le s
  have hw : h + K s (h + 1) - cz_ s < 112 := by omega
  have o_ : op n = nI (oc n) := ct_op ht g1 rfl
  have b4' : yt s = nI (h + K s (h + 1) - cz_ s + 1) := by rw [b4]; exact congrArg nI (by omega)
  have hpn := (ht.2.2.2.2 n g1).1.2.2.2
  have yp_ := (hyp n g1).2
  have hEn := ct_E ht g1
  have hkd := (ht.2.2.2.2 n g1).2.2.2.2.2.1
  have h10 : oc n ≠ 10 := by omega
  have hK0 : K s (h + 1) = K s h := by rw [g13, if_neg h10]; rfl
  have b4p : yt s = nI (h + K s h - cz_ s + 1) := by rw [← hK0]; exact b4'
  have g8p : yl (112 * s + (h + K s h - cz_ s)) = nI n := by rw [← hK0]; exact g8
  have b1p : K s h ≤ dep := by omega
  have b5p : xc s = nI (K s h) := by rw [← hK0]; exact b5
  have b6p : yc s = nI (K s h) := by rw [← hK0]; exact b6
  have hwp : h + K s h - cz_ s < 112 := by omega
  have hsh : 1 ≤ s → 1 ≤ h := fun hs1 => by
    have z1 := cz_1 hs1
    rcases Nat.eq_zero_or_pos h with hz | hz
    · subst hz
      have := h1.2.1 s
      omega
    · exact hz
  have hp2 : pc n = 2 := by
    have h3 := ct_mn' ht g1
    rw [hd] at h3
    have e1 : ct_mx 4 = 2 := rfl
    have e2 : ct_mn 4 = 2 := rfl
    omega
  by_cases hlt : i + 1 < pc n
  · exact sA_Dn ht hyp h1 g1 g2 g3 g4 g5 g6 g7 g8 g9 g10 g11 g12 g13 g14 g15 hn hT b1 b2 b3 b4 b5 b6 hk hv (Or.inl (by omega)) hlt
  obtain rfl : i = 1 := by omega
  have h2 := cc_tk (n := n) (i := 1) (x := cr) ht h1 b1p (by omega)
  have hv0 : cv_R F C (fL ((s * 128 + h) * 4)) (yk (3 * (112 * s + (h + K s (h + 1) - cz_ s)))) := g12.2 (by omega) 0 (by omega) (by omega)
  have e0 : vp_updL fL ((s * 128 + h) * 4 + 1) cr ((s * 128 + h) * 4) = fL ((s * 128 + h) * 4) := pk_uLn (by omega)
  have hEq : (fL ((s * 128 + h) * 4) = cr) ↔ (yk (3 * (112 * s + (h + K s (h + 1) - cz_ s))) = gt) := by
    obtain ⟨y1, p1, p2, p3⟩ := hv0
    obtain ⟨y2, r1, r2, r3⟩ := hv
    have l1 := cv_lt h1.1.1 h1.1.2.1 p1
    have l2 := cv_lt h1.1.1 h1.1.2.1 r1
    have m1 := cv_Xlt l1
    have m2 := cv_Xlt l2
    rw [p2, p3, r2, r3, vo_eq m1 m2, vo_eq (by omega) (by omega)]
    exact ⟨fun h => cv_inj h1.1.1 h1.1.2.1 p1 r1 h, fun h => by rw [h]⟩
  have o4 : op n = 4 := o_.trans (by rw [hd]; rfl)
  by_cases hE : fL ((s * 128 + h) * 4) = cr
  · refine sA_pop ht hyp h1 g1 g2 g3 g4 g5 g6 g7 g8 g9 g10 g11 g12 g13 g14 g15 hn hT b1 b2 b3 b4 b5 b6 hk hv (Or.inl (by omega)) (by omega) (x := lN (cv_n 1 + 4294967296)) (y := 1) (fun post K => x_c4 h7 (by omega) g5 (by omega) o4 ?_) (fun post K => y_a4 h7 hw (by omega) o4 ?_) (cv_num 1)
    · rw [e0, pk_uLs, if_pos hE]; exact x_fnum K
    · rw [if_pos (hEq.mp hE)]; exact K
  · refine sA_pop ht hyp h1 g1 g2 g3 g4 g5 g6 g7 g8 g9 g10 g11 g12 g13 g14 g15 hn hT b1 b2 b3 b4 b5 b6 hk hv (Or.inl (by omega)) (by omega) (x := lN (cv_n 0 + 4294967296)) (y := 0) (fun post K => x_c4 h7 (by omega) g5 (by omega) o4 ?_) (fun post K => y_a4 h7 hw (by omega) o4 ?_) (cv_num 0)
    · rw [e0, pk_uLs, if_neg hE]; exact x_fnum K
    · rw [if_neg (fun h => hE (hEq.mpr h))]; exact K
theorem ct_p1 {n : Nat} (ht : (ct_all op a b fi nx pa N oc pc E lv kd SC)) (g1 : n < N) (hd : oc n = 9 ∨ oc n = 12 ∨ oc n = 13 ∨ oc n = 14 ∨ oc n = 15 ∨ oc n = 17 ∨ oc n = 18) : pc n = 1 := by
  have h3 := ct_mn' ht g1
  have e1 : ct_mx (oc n) = 1 := by
    unfold ct_mx
    rw [if_neg (by omega), if_neg (by omega), if_neg (by omega), if_neg (by omega), if_neg (by omega)]
  have e2 : ct_mn (oc n) = 1 := by unfold ct_mn; rw [if_neg (by omega), if_neg (by omega)]; exact e1
  omega
theorem sA_set {n i e : Nat} (ht : (ct_all op a b fi nx pa N oc pc E lv kd SC)) (hyp : ∀ n, n < N → xp n = nI (pc n) ∧ yp n = nI (pc n)) (h1 : (cc_C N oc pc E lv kd a b SC F C V D K T fN fX fS fT fL yl ya ye yk P H dep xh xc yt yc fn fe gn ge vn vo vv wn wu wv xst xf xr yst yf yr Q k s h)) (g1 : n < N) (g2 : oc n < 19) (g3 : i < pc n) (g4 : e ≤ V) (g5 : fN (s * 128 + h) = nI n) (g6 : fT (s * 128 + h) = nI (ct_tk (oc n) i)) (g7 : fS (s * 128 + h) = nI e) (g8 : yl (112 * s + (h + K s (h + 1) - cz_ s)) = nI n) (g9 : ya (112 * s + (h + K s (h + 1) - cz_ s)) = nI i) (g10 : ye (112 * s + (h + K s (h + 1) - cz_ s)) = nI e - 1) (g11 : ∀ c, ct_in oc a b SC n i c → D e c) (g12 : cf_S F C (oc n) i (fun q => fL ((s * 128 + h) * 4 + q)) (fun q => yk (3 * (112 * s + (h + K s (h + 1) - cz_ s)) + q))) (g13 : K s (h + 1) = K s h + (if oc n = 10 then 1 else 0)) (g14 : cz_ s ≤ K s (h + 1)) (g15 : h + 1 + K s (h + 1) ≤ 16 * K s (h + 1) + lv n + cz_ s) (hn : fX (s * 128 + h) = ct_nx pc kd n (i + 1)) (hT : T s h + 4 * (E n - E (kd n i)) + 3 ≤ T s (h + 1)) (b1 : K s (h + 1) ≤ dep) (b2 : T s (h + 1) + 2 ≤ P s) (b3 : xh s = nI (h + 1)) (b4 : yt s = nI (h + 1 + K s (h + 1) - cz_ s)) (b5 : xc s = nI (K s (h + 1))) (b6 : yc s = nI (K s (h + 1))) (hk : (cr_K φ fu q w F C P pv ou)) (hv : cv_R F C cr gt) (hd : oc n = 9) : ∃ u2 v2 kx, xs_ (kx + 1) ((nI dep), (nI fu), xN, xL, (nI F), (nI V), (nI C), (nI s), (-2), cr, ec, en, ft, (nI q), (nI w), op, a, b, xp, fi, xl, nx, xo, fn, fe, vn, vo, vv, xst, xf, xr, xh, xc, fN, fX, fS, fT, fL, pv) u2 ∧ (∀ post : SY → Prop, post v2 → wpY_deliver post ((nI dep), (nI fu), yN, yi, yo, (nI V), (nI F), (nI C), (nI s), ft, (nI q), 0, 0, (-1), (nI w), 1, 0, gv, gt, op, a, b, pa, fi, nx, yp, wn, wu, gn, ge, wv, yl, ya, ye, yk, yt, yc, yst, yf, yr, ou) gt) ∧ cr_T op a b fi nx pa N oc pc E lv kd SC dep fu xN xL xp xl xo yN yi yo yp φ (kx + 1) u2 v2 := by
  have h7 := (cc_s h1).2
  have h6 := cc_dep h1
  have hKK : K s h ≤ K s (h + 1) := by omega
  have hh := cf_h ht (cc_FR h1) (by omega)
  have hN := ht.2.1
  have hl := (ht.2.2.2.2 n g1).2.2.2.1.2 (by omega)
  have hzl := cz_le s
  have hw : h + K s (h + 1) - cz_ s < 112 := by omega
  have o_ : op n = nI (oc n) := ct_op ht g1 rfl
  have b4' : yt s = nI (h + K s (h + 1) - cz_ s + 1) := by rw [b4]; exact congrArg nI (by omega)
  have hpn := (ht.2.2.2.2 n g1).1.2.2.2
  have yp_ := (hyp n g1).2
  have hEn := ct_E ht g1
  have hkd := (ht.2.2.2.2 n g1).2.2.2.2.2.1
  have h10 : oc n ≠ 10 := by omega
  have hK0 : K s (h + 1) = K s h := by rw [g13, if_neg h10]; rfl
  have b4p : yt s = nI (h + K s h - cz_ s + 1) := by rw [← hK0]; exact b4'
  have g8p : yl (112 * s + (h + K s h - cz_ s)) = nI n := by rw [← hK0]; exact g8
  have b1p : K s h ≤ dep := by omega
  have b5p : xc s = nI (K s h) := by rw [← hK0]; exact b5
  have b6p : yc s = nI (K s h) := by rw [← hK0]; exact b6
  have hwp : h + K s h - cz_ s < 112 := by omega
  have hsh : 1 ≤ s → 1 ≤ h := fun hs1 => by
    have z1 := cz_1 hs1
    rcases Nat.eq_zero_or_pos h with hz | hz
    · subst hz
      have := h1.2.1 s
      omega
    · exact hz
  have hp1 := ct_p1 ht g1 (Or.inl hd)
  obtain rfl : i = 0 := by omega
  have h2 := cc_tk (n := n) (i := 0) (x := cr) ht h1 b1p (by omega)
  have o9 : op n = 9 := o_.trans (by rw [hd]; rfl)
  have hS := (ht.2.2.2.2 n g1).2.2.1 (Or.inr hd)
  have hV2 := h1.1.2.2.1
  obtain ⟨p, hp, hX, hY⟩ := xy_find (c := a n) (ph := -1) (hs := 0) (ec := ec) (en := en) (ft := ft) (cr := cr) (gv := gv) (gt := gt) (fu := fu) (xN := xN) (xL := xL) (xp := xp) (xl := xl) (xo := xo) (yN := yN) (yi := yi) (yo := yo) (yp := yp) (q := q) (w := w) (pv := pv) (ou := ou) (dep := dep) (s := s) (op := op) (a := a) (b := b) (fi := fi) (nx := nx) (pa := pa) (fn := fn) (fe := fe) (gn := gn) (ge := ge) (xst := xst) (xf := xf) (xr := xr) (xh := xh) (xc := xc) (fN := fN) (fX := fX) (fS := fS) (fT := upd fT (s * 128 + h) (nI (0 + 1))) (fL := vp_updL fL ((s * 128 + h) * 4 + 0) cr) (yl := yl) (ya := ya) (ye := ye) (yk := yk) (yt := yt) (yc := yc) (yst := yst) (yf := yf) (yr := yr) h1.2.2.1 hV2 e g4 (g11 _ (Or.inl hS))
  have h3 : (cc_C N oc pc E lv kd a b SC F C V D K T fN fX fS (upd fT (s * 128 + h) (nI (0 + 1))) (vp_updL fL ((s * 128 + h) * 4 + 0) cr) yl ya ye yk P H dep xh xc yt yc fn fe gn ge vn vo (vp_updL vv (p + 1) cr) wn wu (vp_updL wv p gt) xst xf xr yst yf yr Q k s h) := by
    have g := h2
    obtain ⟨⟨q1, q2, q3, q4, q5, q6⟩, gK, gV, gF, _⟩ := g
    exact cc_go ht h2 (by omega) (by omega) (Nat.le_refl _) q1 (Nat.le_refl _) q3 (fun _ _ _ h => h) (cd_V_set gV hp hv) gF (fun _ _ => rfl) (fun _ _ _ => rfl) (fun _ _ _ => rfl) ca_r ca_r ca_r ca_r ca_r ca_r ca_r ca_r ca_r ca_r ca_r ca_r ca_r ca_r ca_r
  have xF : ∀ post : SX → Prop, post ((nI dep), (nI fu), xN, xL, (nI F), (nI V), (nI C), (nI s), (-2), cr, ec, en, ft, (nI q), (nI w), op, a, b, xp, fi, xl, nx, xo, fn, fe, vn, vo, (vp_updL vv (p + 1) cr), xst, xf, xr, (upd xh s (nI h)), xc, fN, fX, fS, (upd fT (s * 128 + h) (nI (0 + 1))), (vp_updL fL ((s * 128 + h) * 4 + 0) cr), pv) → wpX_conclude post ((nI dep), (nI fu), xN, xL, (nI F), (nI V), (nI C), (nI s), (-1), cr, ec, en, ft, (nI q), (nI w), op, a, b, xp, fi, xl, nx, xo, fn, fe, vn, vo, vv, xst, xf, xr, xh, xc, fN, fX, fS, (upd fT (s * 128 + h) (nI (0 + 1))), (vp_updL fL ((s * 128 + h) * 4 + 0) cr), pv) (nI (s * 128 + h)) := by
    intro post K
    refine x_c9 h7 (by omega) g5 (by omega) o9 ?_
    rw [show vp_updL fL ((s * 128 + h) * 4 + 0) cr ((s * 128 + h) * 4) = cr from pk_uLs]
    exact x_set h7 (by omega) b3 g5 (by omega) (by omega) (fun q' hq' => by rw [g7]; exact ⟨_, hX q' 0 0 (by omega) hq'⟩) K
  have yF' : ∀ post : SY → Prop, post ((nI dep), (nI fu), yN, yi, yo, (nI V), (nI F), (nI C), (nI s), ft, (nI q), 0, 0, (-1), (nI w), 1, 1, gv, gt, op, a, b, pa, fi, nx, yp, wn, wu, gn, ge, (vp_updL wv p gt), yl, ya, ye, yk, (upd yt s (nI (h + K s h - cz_ s))), yc, yst, yf, yr, ou) → wpY_apply post ((nI dep), (nI fu), yN, yi, yo, (nI V), (nI F), (nI C), (nI s), ft, (nI q), 0, 0, (-1), (nI w), 1, 0, gv, gt, op, a, b, pa, fi, nx, yp, wn, wu, gn, ge, wv, yl, ya, ye, yk, yt, yc, yst, yf, yr, ou) (nI (112 * s + (h + K s (h + 1) - cz_ s))) (nI n) gt := by
    intro post KK
    rw [hK0]
    refine y_a9 h7 hwp (by omega) o9 (by omega) ?_ b4p g8p KK
    intro q' hq'
    have g10p : ye (112 * s + (h + K s h - cz_ s)) = nI e - 1 := by rw [← hK0]; exact g10
    rw [g10p]
    exact ⟨_, hY q' 0 hq'⟩
  exact sA_ap ht hyp h1 g1 g2 g3 g4 g5 g6 g7 g8 g9 g10 g11 g12 g13 g14 g15 hn hT b1 b2 b3 b4 b5 b6 hk hv (Or.inr (Or.inr hd)) (by omega) xF (xs_0 _) yF' (cr_pop ht h3 b1p b5p b6p hsh hk (by omega) hv)
theorem sA_err {n i e : Nat} (ht : (ct_all op a b fi nx pa N oc pc E lv kd SC)) (hyp : ∀ n, n < N → xp n = nI (pc n) ∧ yp n = nI (pc n)) (h1 : (cc_C N oc pc E lv kd a b SC F C V D K T fN fX fS fT fL yl ya ye yk P H dep xh xc yt yc fn fe gn ge vn vo vv wn wu wv xst xf xr yst yf yr Q k s h)) (g1 : n < N) (g2 : oc n < 19) (g3 : i < pc n) (g4 : e ≤ V) (g5 : fN (s * 128 + h) = nI n) (g6 : fT (s * 128 + h) = nI (ct_tk (oc n) i)) (g7 : fS (s * 128 + h) = nI e) (g8 : yl (112 * s + (h + K s (h + 1) - cz_ s)) = nI n) (g9 : ya (112 * s + (h + K s (h + 1) - cz_ s)) = nI i) (g10 : ye (112 * s + (h + K s (h + 1) - cz_ s)) = nI e - 1) (g11 : ∀ c, ct_in oc a b SC n i c → D e c) (g12 : cf_S F C (oc n) i (fun q => fL ((s * 128 + h) * 4 + q)) (fun q => yk (3 * (112 * s + (h + K s (h + 1) - cz_ s)) + q))) (g13 : K s (h + 1) = K s h + (if oc n = 10 then 1 else 0)) (g14 : cz_ s ≤ K s (h + 1)) (g15 : h + 1 + K s (h + 1) ≤ 16 * K s (h + 1) + lv n + cz_ s) (hn : fX (s * 128 + h) = ct_nx pc kd n (i + 1)) (hT : T s h + 4 * (E n - E (kd n i)) + 3 ≤ T s (h + 1)) (b1 : K s (h + 1) ≤ dep) (b2 : T s (h + 1) + 2 ≤ P s) (b3 : xh s = nI (h + 1)) (b4 : yt s = nI (h + 1 + K s (h + 1) - cz_ s)) (b5 : xc s = nI (K s (h + 1))) (b6 : yc s = nI (K s (h + 1))) (hk : (cr_K φ fu q w F C P pv ou)) (hv : cv_R F C cr gt) (hd : oc n = 13) : ∃ u2 v2 kx, xs_ (kx + 1) ((nI dep), (nI fu), xN, xL, (nI F), (nI V), (nI C), (nI s), (-2), cr, ec, en, ft, (nI q), (nI w), op, a, b, xp, fi, xl, nx, xo, fn, fe, vn, vo, vv, xst, xf, xr, xh, xc, fN, fX, fS, fT, fL, pv) u2 ∧ (∀ post : SY → Prop, post v2 → wpY_deliver post ((nI dep), (nI fu), yN, yi, yo, (nI V), (nI F), (nI C), (nI s), ft, (nI q), 0, 0, (-1), (nI w), 1, 0, gv, gt, op, a, b, pa, fi, nx, yp, wn, wu, gn, ge, wv, yl, ya, ye, yk, yt, yc, yst, yf, yr, ou) gt) ∧ cr_T op a b fi nx pa N oc pc E lv kd SC dep fu xN xL xp xl xo yN yi yo yp φ (kx + 1) u2 v2 := by
  have h7 := (cc_s h1).2
  have h6 := cc_dep h1
  have hKK : K s h ≤ K s (h + 1) := by omega
  have hh := cf_h ht (cc_FR h1) (by omega)
  have hN := ht.2.1
  have hl := (ht.2.2.2.2 n g1).2.2.2.1.2 (by omega)
  have hzl := cz_le s
  have hw : h + K s (h + 1) - cz_ s < 112 := by omega
  have o_ : op n = nI (oc n) := ct_op ht g1 rfl
  have b4' : yt s = nI (h + K s (h + 1) - cz_ s + 1) := by rw [b4]; exact congrArg nI (by omega)
  have hpn := (ht.2.2.2.2 n g1).1.2.2.2
  have yp_ := (hyp n g1).2
  have hEn := ct_E ht g1
  have hkd := (ht.2.2.2.2 n g1).2.2.2.2.2.1
  have hp1 := ct_p1 ht g1 (Or.inr (Or.inr (Or.inl hd)))
  obtain rfl : i = 0 := by omega
  have o13 : op n = 13 := o_.trans (by rw [hd]; rfl)
  have e0 : vp_updL fL ((s * 128 + h) * 4 + 0) cr ((s * 128 + h) * 4) = cr := pk_uLs
  rcases xy_num h1.1.1 h1.1.2.1 hv with ⟨m2, d1, d2, d3, d4, d5⟩ | ⟨d4, d5⟩
  · have i1 : cr.toInt32 = nI m2 := by rw [d2, vo_i1]
    have i2 : gt.toInt32 = nI m2 := by rw [d3, lN_i]
    refine sA_raise ht hyp h1 g1 g2 g3 g4 g5 g6 g7 g8 g9 g10 g11 g12 g13 g14 g15 hn hT b1 b2 b3 b4 b5 b6 hk hv (Or.inr (Or.inl (by omega))) (by omega) (nI m2) (fun post K => x_c13 h7 (by omega) g5 (by omega) o13 ?_) (fun post K => y_a13b h7 hw (by omega) o13 (fun q hq => d5 q _ hq) ?_)
    · rw [e0]; exact x_errB (by omega) g5 d4 (by rw [i1]; exact K)
    · rw [i2]; exact K
  · refine sA_raise ht hyp h1 g1 g2 g3 g4 g5 g6 g7 g8 g9 g10 g11 g12 g13 g14 g15 hn hT b1 b2 b3 b4 b5 b6 hk hv (Or.inr (Or.inl (by omega))) (by omega) 1 (fun post K => x_c13 h7 (by omega) g5 (by omega) o13 ?_) (fun post K => y_a13a h7 hw (by omega) o13 (fun q hq => d5 q _ hq) K)
    rw [e0]; exact x_errA (by omega) g5 d4 K
theorem sA_stat {n i e : Nat} (ht : (ct_all op a b fi nx pa N oc pc E lv kd SC)) (hyp : ∀ n, n < N → xp n = nI (pc n) ∧ yp n = nI (pc n)) (h1 : (cc_C N oc pc E lv kd a b SC F C V D K T fN fX fS fT fL yl ya ye yk P H dep xh xc yt yc fn fe gn ge vn vo vv wn wu wv xst xf xr yst yf yr Q k s h)) (g1 : n < N) (g2 : oc n < 19) (g3 : i < pc n) (g4 : e ≤ V) (g5 : fN (s * 128 + h) = nI n) (g6 : fT (s * 128 + h) = nI (ct_tk (oc n) i)) (g7 : fS (s * 128 + h) = nI e) (g8 : yl (112 * s + (h + K s (h + 1) - cz_ s)) = nI n) (g9 : ya (112 * s + (h + K s (h + 1) - cz_ s)) = nI i) (g10 : ye (112 * s + (h + K s (h + 1) - cz_ s)) = nI e - 1) (g11 : ∀ c, ct_in oc a b SC n i c → D e c) (g12 : cf_S F C (oc n) i (fun q => fL ((s * 128 + h) * 4 + q)) (fun q => yk (3 * (112 * s + (h + K s (h + 1) - cz_ s)) + q))) (g13 : K s (h + 1) = K s h + (if oc n = 10 then 1 else 0)) (g14 : cz_ s ≤ K s (h + 1)) (g15 : h + 1 + K s (h + 1) ≤ 16 * K s (h + 1) + lv n + cz_ s) (hn : fX (s * 128 + h) = ct_nx pc kd n (i + 1)) (hT : T s h + 4 * (E n - E (kd n i)) + 3 ≤ T s (h + 1)) (b1 : K s (h + 1) ≤ dep) (b2 : T s (h + 1) + 2 ≤ P s) (b3 : xh s = nI (h + 1)) (b4 : yt s = nI (h + 1 + K s (h + 1) - cz_ s)) (b5 : xc s = nI (K s (h + 1))) (b6 : yc s = nI (K s (h + 1))) (hk : (cr_K φ fu q w F C P pv ou)) (hv : cv_R F C cr gt) (hd : oc n = 18) : ∃ u2 v2 kx, xs_ (kx + 1) ((nI dep), (nI fu), xN, xL, (nI F), (nI V), (nI C), (nI s), (-2), cr, ec, en, ft, (nI q), (nI w), op, a, b, xp, fi, xl, nx, xo, fn, fe, vn, vo, vv, xst, xf, xr, xh, xc, fN, fX, fS, fT, fL, pv) u2 ∧ (∀ post : SY → Prop, post v2 → wpY_deliver post ((nI dep), (nI fu), yN, yi, yo, (nI V), (nI F), (nI C), (nI s), ft, (nI q), 0, 0, (-1), (nI w), 1, 0, gv, gt, op, a, b, pa, fi, nx, yp, wn, wu, gn, ge, wv, yl, ya, ye, yk, yt, yc, yst, yf, yr, ou) gt) ∧ cr_T op a b fi nx pa N oc pc E lv kd SC dep fu xN xL xp xl xo yN yi yo yp φ (kx + 1) u2 v2 := by
  have h7 := (cc_s h1).2
  have h6 := cc_dep h1
  have hKK : K s h ≤ K s (h + 1) := by omega
  have hh := cf_h ht (cc_FR h1) (by omega)
  have hN := ht.2.1
  have hl := (ht.2.2.2.2 n g1).2.2.2.1.2 (by omega)
  have hzl := cz_le s
  have hw : h + K s (h + 1) - cz_ s < 112 := by omega
  have o_ : op n = nI (oc n) := ct_op ht g1 rfl
  have b4' : yt s = nI (h + K s (h + 1) - cz_ s + 1) := by rw [b4]; exact congrArg nI (by omega)
  have hpn := (ht.2.2.2.2 n g1).1.2.2.2
  have yp_ := (hyp n g1).2
  have hEn := ct_E ht g1
  have hkd := (ht.2.2.2.2 n g1).2.2.2.2.2.1
  have hp1 := ct_p1 ht g1 (by omega)
  obtain rfl : i = 0 := by omega
  have o18 : op n = 18 := o_.trans (by rw [hd]; rfl)
  have e0 : vp_updL fL ((s * 128 + h) * 4 + 0) cr ((s * 128 + h) * 4) = cr := pk_uLs
  rcases xy_co h1.1.1 h1.1.2.1 hv with ⟨c, c1, c2, c3, c4, c5⟩ | ⟨⟨kk, c1, c2⟩, c3⟩
  · have hC6 := h1.1.2.1
    obtain ⟨⟨w', w1, w2, w3⟩, _, _⟩ := h1.2.2.2.2.2.2.1 (c + 1) (by omega) (by omega)
    refine sA_pop ht hyp h1 g1 g2 g3 g4 g5 g6 g7 g8 g9 g10 g11 g12 g13 g14 g15 hn hT b1 b2 b3 b4 b5 b6 hk hv (Or.inr (Or.inl (by omega))) (by omega) (x := lN (cv_n (nI w') + 4294967296)) (y := lN (cv_n (nI w'))) (fun post K => x_c18 h7 (by omega) g5 (by omega) o18 ?_) (fun post K => ?_) (cv_num _)
    · rw [e0]
      exact x_statB (c := c) (by omega) (by rw [c2, vo_i3]) c4 (by rw [w2]; exact x_fnum K)
    · refine y_a18b (c := c) h7 hw (by omega) o18 (by omega) c5 (by rw [c3, vo_y3]) ?_
      rw [w3, vo_st (by omega)]; exact K
  · refine sA_raise ht hyp h1 g1 g2 g3 g4 g5 g6 g7 g8 g9 g10 g11 g12 g13 g14 g15 hn hT b1 b2 b3 b4 b5 b6 hk hv (Or.inr (Or.inl (by omega))) (by omega) 2 (fun post K => x_c18 h7 (by omega) g5 (by omega) o18 ?_) (fun post K => y_a18a h7 hw (by omega) o18 c3 K)
    rw [e0]; exact x_statA (by omega) g5 c1 c2 K
theorem sA_yield {n i e : Nat} (ht : (ct_all op a b fi nx pa N oc pc E lv kd SC)) (hyp : ∀ n, n < N → xp n = nI (pc n) ∧ yp n = nI (pc n)) (h1 : (cc_C N oc pc E lv kd a b SC F C V D K T fN fX fS fT fL yl ya ye yk P H dep xh xc yt yc fn fe gn ge vn vo vv wn wu wv xst xf xr yst yf yr Q k s h)) (g1 : n < N) (g2 : oc n < 19) (g3 : i < pc n) (g4 : e ≤ V) (g5 : fN (s * 128 + h) = nI n) (g6 : fT (s * 128 + h) = nI (ct_tk (oc n) i)) (g7 : fS (s * 128 + h) = nI e) (g8 : yl (112 * s + (h + K s (h + 1) - cz_ s)) = nI n) (g9 : ya (112 * s + (h + K s (h + 1) - cz_ s)) = nI i) (g10 : ye (112 * s + (h + K s (h + 1) - cz_ s)) = nI e - 1) (g11 : ∀ c, ct_in oc a b SC n i c → D e c) (g12 : cf_S F C (oc n) i (fun q => fL ((s * 128 + h) * 4 + q)) (fun q => yk (3 * (112 * s + (h + K s (h + 1) - cz_ s)) + q))) (g13 : K s (h + 1) = K s h + (if oc n = 10 then 1 else 0)) (g14 : cz_ s ≤ K s (h + 1)) (g15 : h + 1 + K s (h + 1) ≤ 16 * K s (h + 1) + lv n + cz_ s) (hn : fX (s * 128 + h) = ct_nx pc kd n (i + 1)) (hT : T s h + 4 * (E n - E (kd n i)) + 3 ≤ T s (h + 1)) (b1 : K s (h + 1) ≤ dep) (b2 : T s (h + 1) + 2 ≤ P s) (b3 : xh s = nI (h + 1)) (b4 : yt s = nI (h + 1 + K s (h + 1) - cz_ s)) (b5 : xc s = nI (K s (h + 1))) (b6 : yc s = nI (K s (h + 1))) (hk : (cr_K φ fu q w F C P pv ou)) (hv : cv_R F C cr gt) (hd : oc n = 17) : ∃ u2 v2 kx, xs_ (kx + 1) ((nI dep), (nI fu), xN, xL, (nI F), (nI V), (nI C), (nI s), (-2), cr, ec, en, ft, (nI q), (nI w), op, a, b, xp, fi, xl, nx, xo, fn, fe, vn, vo, vv, xst, xf, xr, xh, xc, fN, fX, fS, fT, fL, pv) u2 ∧ (∀ post : SY → Prop, post v2 → wpY_deliver post ((nI dep), (nI fu), yN, yi, yo, (nI V), (nI F), (nI C), (nI s), ft, (nI q), 0, 0, (-1), (nI w), 1, 0, gv, gt, op, a, b, pa, fi, nx, yp, wn, wu, gn, ge, wv, yl, ya, ye, yk, yt, yc, yst, yf, yr, ou) gt) ∧ cr_T op a b fi nx pa N oc pc E lv kd SC dep fu xN xL xp xl xo yN yi yo yp φ (kx + 1) u2 v2 := by
  have h7 := (cc_s h1).2
  have h6 := cc_dep h1
  have hKK : K s h ≤ K s (h + 1) := by omega
  have hh := cf_h ht (cc_FR h1) (by omega)
  have hN := ht.2.1
  have hl := (ht.2.2.2.2 n g1).2.2.2.1.2 (by omega)
  have hzl := cz_le s
  have hw : h + K s (h + 1) - cz_ s < 112 := by omega
  have o_ : op n = nI (oc n) := ct_op ht g1 rfl
  have b4' : yt s = nI (h + K s (h + 1) - cz_ s + 1) := by rw [b4]; exact congrArg nI (by omega)
  have hpn := (ht.2.2.2.2 n g1).1.2.2.2
  have yp_ := (hyp n g1).2
  have hEn := ct_E ht g1
  have hkd := (ht.2.2.2.2 n g1).2.2.2.2.2.1
  have h10 : oc n ≠ 10 := by omega
  have hK0 : K s (h + 1) = K s h := by rw [g13, if_neg h10]; rfl
  have b4p : yt s = nI (h + K s h - cz_ s + 1) := by rw [← hK0]; exact b4'
  have g8p : yl (112 * s + (h + K s h - cz_ s)) = nI n := by rw [← hK0]; exact g8
  have b1p : K s h ≤ dep := by omega
  have b5p : xc s = nI (K s h) := by rw [← hK0]; exact b5
  have b6p : yc s = nI (K s h) := by rw [← hK0]; exact b6
  have hwp : h + K s h - cz_ s < 112 := by omega
  have hsh : 1 ≤ s → 1 ≤ h := fun hs1 => by
    have z1 := cz_1 hs1
    rcases Nat.eq_zero_or_pos h with hz | hz
    · subst hz
      have := h1.2.1 s
      omega
    · exact hz
  have hp1 := ct_p1 ht g1 (by omega)
  obtain rfl : i = 0 := by omega
  have o17 : op n = 17 := o_.trans (by rw [hd]; rfl)
  have e0 : vp_updL fL ((s * 128 + h) * 4 + 0) cr ((s * 128 + h) * 4) = cr := pk_uLs
  rcases Nat.eq_zero_or_pos s with hz | hz
  · refine sA_raise ht hyp h1 g1 g2 g3 g4 g5 g6 g7 g8 g9 g10 g11 g12 g13 g14 g15 hn hT b1 b2 b3 b4 b5 b6 hk hv (Or.inr (Or.inl (by omega))) (by omega) 6 (fun post K => x_c17 h7 (by omega) g5 (by omega) o17 ?_) (fun post K => y_a17a h7 hw (by omega) o17 hz K)
    rw [e0]
    subst hz
    exact x_yieldA (by omega) g5 K
  · have h2 := cc_tk (n := n) (i := 0) (x := cr) ht h1 b1p (by omega)
    have hzK := cf_z ht (cc_FR h1) (by omega) hsh
    have h3 : (cc_C N oc pc E lv kd a b SC F C V D K T fN fX fS (upd fT (s * 128 + h) (nI (0 + 1))) (vp_updL fL ((s * 128 + h) * 4 + 0) cr) yl ya ye yk (ch_ P s (T s h + 2)) H dep xh xc yt yc fn fe gn ge vn vo vv wn wu wv xst xf xr yst yf yr Q k s h) := cc_fr ht h2 (by omega) (by omega) (fun _ _ _ => rfl) (fun _ _ _ => rfl) ca_r ca_r ca_r ca_r ca_r ca_r ca_r ca_r ca_r ca_c ca_r ca_r ca_r ca_r
    obtain ⟨r, j, e1, e2, e3, e4, e5, e6, e7, e8⟩ := cr_leave (m := T s h + 2) (wd := 0) (d := 2) (ft := ft) (ec := ec) (en := en) (gv := gv) (xN := xN) (xL := xL) (xp := xp) (xl := xl) (xo := xo) (yN := yN) (yi := yi) (yo := yo) (yp := yp) ht h2 b1p hk hz (Or.inl rfl) (by omega) (fun _ => cs_S_mk (n := n) h3 b1p (by rw [cz_1 hz]; exact hsh hz) (by rw [ch_s]; omega) (by omega) hzK b3 (by rw [b4, hK0]) b5p b6p g1 (by omega) g8p) hv
    refine sA_ap ht hyp h1 g1 g2 g3 g4 g5 g6 g7 g8 g9 g10 g11 g12 g13 g14 g15 hn hT b1 b2 b3 b4 b5 b6 hk hv (Or.inr (Or.inl (by omega))) (by omega) (fun post K => x_c17 h7 (by omega) g5 (by omega) o17 (by rw [e0]; exact x_yieldB hz h7 e1 e3 e5 K)) (xs_0 _) (fun post K => y_a17b h7 hw (by omega) o17 hz (y_leave h7 e1 e4 e6 K)) e8
theorem sA_print {n i e : Nat} (ht : (ct_all op a b fi nx pa N oc pc E lv kd SC)) (hyp : ∀ n, n < N → xp n = nI (pc n) ∧ yp n = nI (pc n)) (h1 : (cc_C N oc pc E lv kd a b SC F C V D K T fN fX fS fT fL yl ya ye yk P H dep xh xc yt yc fn fe gn ge vn vo vv wn wu wv xst xf xr yst yf yr Q k s h)) (g1 : n < N) (g2 : oc n < 19) (g3 : i < pc n) (g4 : e ≤ V) (g5 : fN (s * 128 + h) = nI n) (g6 : fT (s * 128 + h) = nI (ct_tk (oc n) i)) (g7 : fS (s * 128 + h) = nI e) (g8 : yl (112 * s + (h + K s (h + 1) - cz_ s)) = nI n) (g9 : ya (112 * s + (h + K s (h + 1) - cz_ s)) = nI i) (g10 : ye (112 * s + (h + K s (h + 1) - cz_ s)) = nI e - 1) (g11 : ∀ c, ct_in oc a b SC n i c → D e c) (g12 : cf_S F C (oc n) i (fun q => fL ((s * 128 + h) * 4 + q)) (fun q => yk (3 * (112 * s + (h + K s (h + 1) - cz_ s)) + q))) (g13 : K s (h + 1) = K s h + (if oc n = 10 then 1 else 0)) (g14 : cz_ s ≤ K s (h + 1)) (g15 : h + 1 + K s (h + 1) ≤ 16 * K s (h + 1) + lv n + cz_ s) (hn : fX (s * 128 + h) = ct_nx pc kd n (i + 1)) (hT : T s h + 4 * (E n - E (kd n i)) + 3 ≤ T s (h + 1)) (b1 : K s (h + 1) ≤ dep) (b2 : T s (h + 1) + 2 ≤ P s) (b3 : xh s = nI (h + 1)) (b4 : yt s = nI (h + 1 + K s (h + 1) - cz_ s)) (b5 : xc s = nI (K s (h + 1))) (b6 : yc s = nI (K s (h + 1))) (hk : (cr_K φ fu q w F C P pv ou)) (hv : cv_R F C cr gt) (hd : oc n = 14) : ∃ u2 v2 kx, xs_ (kx + 1) ((nI dep), (nI fu), xN, xL, (nI F), (nI V), (nI C), (nI s), (-2), cr, ec, en, ft, (nI q), (nI w), op, a, b, xp, fi, xl, nx, xo, fn, fe, vn, vo, vv, xst, xf, xr, xh, xc, fN, fX, fS, fT, fL, pv) u2 ∧ (∀ post : SY → Prop, post v2 → wpY_deliver post ((nI dep), (nI fu), yN, yi, yo, (nI V), (nI F), (nI C), (nI s), ft, (nI q), 0, 0, (-1), (nI w), 1, 0, gv, gt, op, a, b, pa, fi, nx, yp, wn, wu, gn, ge, wv, yl, ya, ye, yk, yt, yc, yst, yf, yr, ou) gt) ∧ cr_T op a b fi nx pa N oc pc E lv kd SC dep fu xN xL xp xl xo yN yi yo yp φ (kx + 1) u2 v2 := by
  have h7 := (cc_s h1).2
  have h6 := cc_dep h1
  have hKK : K s h ≤ K s (h + 1) := by omega
  have hh := cf_h ht (cc_FR h1) (by omega)
  have hN := ht.2.1
  have hl := (ht.2.2.2.2 n g1).2.2.2.1.2 (by omega)
  have hzl := cz_le s
  have hw : h + K s (h + 1) - cz_ s < 112 := by omega
  have o_ : op n = nI (oc n) := ct_op ht g1 rfl
  have b4' : yt s = nI (h + K s (h + 1) - cz_ s + 1) := by rw [b4]; exact congrArg nI (by omega)
  have hpn := (ht.2.2.2.2 n g1).1.2.2.2
  have yp_ := (hyp n g1).2
  have hEn := ct_E ht g1
  have hkd := (ht.2.2.2.2 n g1).2.2.2.2.2.1
  have h10 : oc n ≠ 10 := by omega
  have hK0 : K s (h + 1) = K s h := by rw [g13, if_neg h10]; rfl
  have b4p : yt s = nI (h + K s h - cz_ s + 1) := by rw [← hK0]; exact b4'
  have g8p : yl (112 * s + (h + K s h - cz_ s)) = nI n := by rw [← hK0]; exact g8
  have b1p : K s h ≤ dep := by omega
  have b5p : xc s = nI (K s h) := by rw [← hK0]; exact b5
  have b6p : yc s = nI (K s h) := by rw [← hK0]; exact b6
  have hwp : h + K s h - cz_ s < 112 := by omega
  have hsh : 1 ≤ s → 1 ≤ h := fun hs1 => by
    have z1 := cz_1 hs1
    rcases Nat.eq_zero_or_pos h with hz | hz
    · subst hz
      have := h1.2.1 s
      omega
    · exact hz
  have hp1 := ct_p1 ht g1 (by omega)
  obtain rfl : i = 0 := by omega
  have o14 : op n = 14 := o_.trans (by rw [hd]; rfl)
  have e0 : vp_updL fL ((s * 128 + h) * 4 + 0) cr ((s * 128 + h) * 4) = cr := pk_uLs
  have h2 := cc_tk (n := n) (i := 0) (x := cr) ht h1 b1p (by omega)
  obtain ⟨φ1, hφ1, hk1⟩ := cr_P (P' := ch_ P s (T s h + 2)) (d := 3) hk h7 rfl (by omega)
  have hw9 := hk.1.2.2.2
  have h3 : (cc_C N oc pc E lv kd a b SC F C V D K T fN fX fS (upd fT (s * 128 + h) (nI (0 + 1))) (vp_updL fL ((s * 128 + h) * 4 + 0) cr) yl ya ye yk (ch_ P s (T s h + 2)) H dep xh xc yt yc fn fe gn ge vn vo vv wn wu wv xst xf xr yst yf yr Q k s h) := cc_fr ht h2 (by omega) (by omega) (fun _ _ _ => rfl) (fun _ _ _ => rfl) ca_r ca_r ca_r ca_r ca_r ca_r ca_r ca_r ca_r ca_c ca_r ca_r ca_r ca_r
  have fin : ∀ pv' ou' : Nat → Int64, (cr_K φ1 fu q (w + 1) F C (ch_ P s (T s h + 2)) pv' ou') → cr_T op a b fi nx pa N oc pc E lv kd SC dep fu xN xL xp xl xo yN yi yo yp φ 2 ((nI dep), (nI fu), xN, xL, (nI F), (nI V), (nI C), (nI s), (-2), cr, ec, en, ft, (nI q), (nI (w + 1)), op, a, b, xp, fi, xl, nx, xo, fn, fe, vn, vo, vv, xst, xf, xr, (upd xh s (nI h)), xc, fN, fX, fS, (upd fT (s * 128 + h) (nI (0 + 1))), (vp_updL fL ((s * 128 + h) * 4 + 0) cr), pv') ((nI dep), (nI fu), yN, yi, yo, (nI V), (nI F), (nI C), (nI s), ft, (nI q), 0, 0, (-1), (nI (w + 1)), 1, 1, gv, gt, op, a, b, pa, fi, nx, yp, wn, wu, gn, ge, wv, yl, ya, ye, yk, (upd yt s (nI (h + K s h - cz_ s))), yc, yst, yf, yr, ou') := by
    intro pv' ou' hk2
    obtain ⟨φ3, z1, z2⟩ := cr_pop (d := 0) (ec := ec) (en := en) (ft := ft) (gv := gv) (xN := xN) (xL := xL) (xp := xp) (xl := xl) (xo := xo) (yN := yN) (yi := yi) (yo := yo) (yp := yp) ht h3 b1p b5p b6p hsh hk2 (by rw [ch_s]; omega) hv
    exact ⟨φ3, by omega, z2⟩
  rcases Nat.lt_or_ge w 24 with hw24 | hw24
  · refine sA_ap ht hyp h1 g1 g2 g3 g4 g5 g6 g7 g8 g9 g10 g11 g12 g13 g14 g15 hn hT b1 b2 b3 b4 b5 b6 hk hv (Or.inr (Or.inl (by omega))) (by omega) (fun post K => x_c14 h7 (by omega) g5 (by omega) o14 (by rw [e0]; exact x_prA hw24 (x_finish h7 b3 K))) (xs_0 _) (fun post K => y_a14a h7 hw (by omega) o14 hw24 (y_finish h7 b4p hwp g8p (by omega) o_ (by omega) h10 K)) (fin _ _ ⟨⟨hk1.1.1, hk1.1.2.1, hk1.1.2.2.1, by omega⟩, fun j hj hjw => ?_⟩)
    by_cases hjj : j = w
    · rw [hjj, pk_uLs, pk_uLs]; exact hv
    · rw [pk_uLn hjj, pk_uLn hjj]; exact hk.2 j hj (by omega)
  · exact sA_ap ht hyp h1 g1 g2 g3 g4 g5 g6 g7 g8 g9 g10 g11 g12 g13 g14 g15 hn hT b1 b2 b3 b4 b5 b6 hk hv (Or.inr (Or.inl (by omega))) (by omega) (fun post K => x_c14 h7 (by omega) g5 (by omega) o14 (by rw [e0]; exact x_prB hw24 (by omega) (x_finish h7 b3 K))) (xs_0 _) (fun post K => y_a14b h7 hw (by omega) o14 hw24 (by omega) (y_finish h7 b4p hwp g8p (by omega) o_ (by omega) h10 K)) (fin _ _ ⟨⟨hk1.1.1, hk1.1.2.1, hk1.1.2.2.1, by omega⟩, fun j hj hjw => hk.2 j hj (by omega)⟩)
end
end
section
section
variable {xd xg xN xL xF xV xC xs ph : Int32} {cr : Int64} {ec en ft bt pr : Int32} {op a b xp fi xl nx xo fn fe vn vo : Nat → Int32} {vv : Nat → Int64} {xst xf xr xh xc fN fX fS fT : Nat → Int32} {fL pv : Nat → Int64}
variable {post : SX → Prop}
theorem x_crA {i m : Nat} {x : Int64} {k : Int32} (hi : i < 896) (hn : fN i = nI m) (hk : k ≠ 2) (hf : ∀ q : Int32 → Prop, q k → wpX_kindOf q x) (K : wpX_raise post (xd, xg, xN, xL, xF, xV, xC, xs, ph, cr, ec, en, ft, bt, pr, op, a, b, xp, fi, xl, nx, xo, fn, fe, vn, vo, vv, xst, xf, xr, xh, xc, fN, fX, fS, fT, fL, pv) 2 (nI m)) : wpX_concludeCreate post (xd, xg, xN, xL, xF, xV, xC, xs, ph, cr, ec, en, ft, bt, pr, op, a, b, xp, fi, xl, nx, xo, fn, fe, vn, vo, vv, xst, xf, xr, xh, xc, fN, fX, fS, fT, fL, pv) (nI i) x := by
  have ei := nc_ (n := i) (by omega)
  exact ⟨vi_ hi (by omega), nm_r (e' := nI m) (by rw [ei, hn]) (hf _ (br_f hk K))⟩
theorem x_crB {i m f g p : Nat} {x : Int64} (hi : i < 896) (hn : fN i = nI m) (hx : x.toInt32 = nI f) (hf : f < 40) (hg : fn f = nI g) (hg2 : g < 96) (hp : b g = nI p) (hp1 : 1 < p) (hp3 : p < 100) (hk : ∀ q : Int32 → Prop, q 2 → wpX_kindOf q x) (K : wpX_raise post (xd, xg, xN, xL, xF, xV, xC, xs, ph, cr, ec, en, ft, bt, pr, op, a, b, xp, fi, xl, nx, xo, fn, fe, vn, vo, vv, xst, xf, xr, xh, xc, fN, fX, fS, fT, fL, pv) 2 (nI m)) : wpX_concludeCreate post (xd, xg, xN, xL, xF, xV, xC, xs, ph, cr, ec, en, ft, bt, pr, op, a, b, xp, fi, xl, nx, xo, fn, fe, vn, vo, vv, xst, xf, xr, xh, xc, fN, fX, fS, fT, fL, pv) (nI i) x := by
  have ei := nc_ (n := i) (by omega)
  have ef := nc_ (n := f) (by omega)
  have eg := nc_ (n := g) (by omega)
  refine ⟨vi_ hi (by omega), nm_r (e' := nI m) (by rw [ei, hn]) (hk _ (br_t rfl ?_))⟩
  rw [hx, ef, hg, eg, hp]
  exact ⟨vi_ hf (by omega), vi_ hg2 (by omega), br_f (nI_ge (a := 1) hp1 (by omega)) K⟩
theorem x_crC {i m f g p : Nat} {x : Int64} (hi : i < 896) (hn : fN i = nI m) (hx : x.toInt32 = nI f) (hf : f < 40) (hg : fn f = nI g) (hg2 : g < 96) (hp : b g = nI p) (hp1 : p ≤ 1) (hk : ∀ q : Int32 → Prop, q 2 → wpX_kindOf q x) (K : wpX_raise post (xd, xg, xN, xL, xF, xV, (nI 6), xs, ph, cr, ec, en, ft, bt, pr, op, a, b, xp, fi, xl, nx, xo, fn, fe, vn, vo, vv, xst, xf, xr, xh, xc, fN, fX, fS, fT, fL, pv) 7 (nI m)) : wpX_concludeCreate post (xd, xg, xN, xL, xF, xV, (nI 6), xs, ph, cr, ec, en, ft, bt, pr, op, a, b, xp, fi, xl, nx, xo, fn, fe, vn, vo, vv, xst, xf, xr, xh, xc, fN, fX, fS, fT, fL, pv) (nI i) x := by
  have ei := nc_ (n := i) (by omega)
  have ef := nc_ (n := f) (by omega)
  have eg := nc_ (n := g) (by omega)
  refine ⟨vi_ hi (by omega), nm_r (e' := nI m) (by rw [ei, hn]) (hk _ (br_t rfl ?_))⟩
  rw [hx, ef, hg, eg, hp]
  exact ⟨vi_ hf (by omega), vi_ hg2 (by omega), br_t (nI_le (b := 1) hp1 (by omega)) (br_f (by decide) K)⟩
theorem x_crD {i m f g p C : Nat} {x : Int64} (hi : i < 896) (hn : fN i = nI m) (hx : x.toInt32 = nI f) (hf : f < 40) (hg : fn f = nI g) (hg2 : g < 96) (hp : b g = nI p) (hp1 : p ≤ 1) (hC : C < 6) (hk : ∀ q : Int32 → Prop, q 2 → wpX_kindOf q x) (K : wpX_finish post (xd, xg, xN, xL, xF, xV, (nI (C + 1)), xs, ph, cr, ec, en, ft, bt, pr, op, a, b, xp, fi, xl, nx, xo, fn, fe, vn, vo, vv, (upd xst (C + 1) 0), (upd xf (C + 1) (nI f)), xr, (upd xh (C + 1) 0), (upd xc (C + 1) 0), fN, fX, fS, fT, fL, pv) (lN (12884901888 + C + 1))) : wpX_concludeCreate post (xd, xg, xN, xL, xF, xV, (nI C), xs, ph, cr, ec, en, ft, bt, pr, op, a, b, xp, fi, xl, nx, xo, fn, fe, vn, vo, vv, xst, xf, xr, xh, xc, fN, fX, fS, fT, fL, pv) (nI i) x := by
  have ei := nc_ (n := i) (by omega)
  have ef := nc_ (n := f) (by omega)
  have eg := nc_ (n := g) (by omega)
  have ec' := nc_ (n := C + 1) (by omega)
  have w := vi_ (n := C + 1) (N := 7) (by omega) (by omega)
  refine ⟨vi_ hi (by omega), nm_r (e' := nI m) (by rw [ei, hn]) (hk _ (br_t rfl ?_))⟩
  rw [hx, ef, hg, eg, hp]
  refine ⟨vi_ hf (by omega), vi_ hg2 (by omega), br_t (nI_le (b := 1) hp1 (by omega)) (br_t (nI_lt (b := 6) hC (by omega)) (nm_r (nI_1 C) ⟨w, nm_r (e' := upd xst (C + 1) 0) (by rw [ec']) ⟨w, nm_r (e' := upd xf (C + 1) (nI f)) (by rw [ec']) ⟨w, nm_r (e' := upd xh (C + 1) 0) (by rw [ec']) ⟨w, nm_r (e' := upd xc (C + 1) 0) (by rw [ec']) ?_⟩⟩⟩⟩))⟩
  unfold wpX_valueOf
  rw [vo_3 (by omega)]
  exact K
end
section
variable {yd yg yN yi yo yV yF yC ys yft ybt res yer ypl ypr rn hs : Int32} {gv gt : Int64} {op a b pa fi nx yp wn wu gn ge : Nat → Int32} {wv : Nat → Int64} {yl ya ye : Nat → Int32} {yk : Nat → Int64} {yt yc yst yf yr : Nat → Int32} {ou : Nat → Int64}
variable {post : SY → Prop}
theorem y_crA {m : Nat} {v : Int64} (hf : ∀ q : Int32 → Prop, q 0 → wpY_function q (yd, yg, yN, yi, yo, yV, yF, yC, ys, yft, ybt, res, yer, ypl, ypr, rn, hs, gv, gt, op, a, b, pa, fi, nx, yp, wn, wu, gn, ge, wv, yl, ya, ye, yk, yt, yc, yst, yf, yr, ou) v) (K : wpY_raise post (yd, yg, yN, yi, yo, yV, yF, yC, ys, yft, ybt, res, yer, ypl, ypr, rn, hs, gv, gt, op, a, b, pa, fi, nx, yp, wn, wu, gn, ge, wv, yl, ya, ye, yk, yt, yc, yst, yf, yr, ou) 2 (nI m)) : wpY_create post (yd, yg, yN, yi, yo, yV, yF, yC, ys, yft, ybt, res, yer, ypl, ypr, rn, hs, gv, gt, op, a, b, pa, fi, nx, yp, wn, wu, gn, ge, wv, yl, ya, ye, yk, yt, yc, yst, yf, yr, ou) (nI m) v := by
  unfold wpY_create
  dsimp only
  exact hf _ (br_t rfl K)
theorem y_crB {m f g p : Nat} {v : Int64} (hx : (v - 8589934592).toInt32 = nI f) (hf : f < 40) (hg : gn f = nI g) (hg2 : g < 96) (hp : b g = nI p) (hp1 : 1 < p) (hp3 : p < 100) (hk : ∀ q : Int32 → Prop, q 1 → wpY_function q (yd, yg, yN, yi, yo, yV, yF, yC, ys, yft, ybt, res, yer, ypl, ypr, rn, hs, gv, gt, op, a, b, pa, fi, nx, yp, wn, wu, gn, ge, wv, yl, ya, ye, yk, yt, yc, yst, yf, yr, ou) v) (K : wpY_raise post (yd, yg, yN, yi, yo, yV, yF, yC, ys, yft, ybt, res, yer, ypl, ypr, rn, hs, gv, gt, op, a, b, pa, fi, nx, yp, wn, wu, gn, ge, wv, yl, ya, ye, yk, yt, yc, yst, yf, yr, ou) 2 (nI m)) : wpY_create post (yd, yg, yN, yi, yo, yV, yF, yC, ys, yft, ybt, res, yer, ypl, ypr, rn, hs, gv, gt, op, a, b, pa, fi, nx, yp, wn, wu, gn, ge, wv, yl, ya, ye, yk, yt, yc, yst, yf, yr, ou) (nI m) v := by
  have ef := nc_ (n := f) (by omega)
  have eg := nc_ (n := g) (by omega)
  unfold wpY_create
  dsimp only
  refine hk _ (br_f (by decide) ?_)
  rw [hx, ef, hg, eg, hp]
  exact ⟨vi_ hf (by omega), vi_ hg2 (by omega), br_f (nI_ge (a := 1) hp1 (by omega)) K⟩
theorem y_crC {m f g p : Nat} {v : Int64} (hx : (v - 8589934592).toInt32 = nI f) (hf : f < 40) (hg : gn f = nI g) (hg2 : g < 96) (hp : b g = nI p) (hp1 : p ≤ 1) (hk : ∀ q : Int32 → Prop, q 1 → wpY_function q (yd, yg, yN, yi, yo, yV, yF, (nI 6), ys, yft, ybt, res, yer, ypl, ypr, rn, hs, gv, gt, op, a, b, pa, fi, nx, yp, wn, wu, gn, ge, wv, yl, ya, ye, yk, yt, yc, yst, yf, yr, ou) v) (K : wpY_raise post (yd, yg, yN, yi, yo, yV, yF, (nI 6), ys, yft, ybt, res, yer, ypl, ypr, rn, hs, gv, gt, op, a, b, pa, fi, nx, yp, wn, wu, gn, ge, wv, yl, ya, ye, yk, yt, yc, yst, yf, yr, ou) 7 (nI m)) : wpY_create post (yd, yg, yN, yi, yo, yV, yF, (nI 6), ys, yft, ybt, res, yer, ypl, ypr, rn, hs, gv, gt, op, a, b, pa, fi, nx, yp, wn, wu, gn, ge, wv, yl, ya, ye, yk, yt, yc, yst, yf, yr, ou) (nI m) v := by
  have ef := nc_ (n := f) (by omega)
  have eg := nc_ (n := g) (by omega)
  unfold wpY_create
  dsimp only
  refine hk _ (br_f (by decide) ?_)
  rw [hx, ef, hg, eg, hp]
  exact ⟨vi_ hf (by omega), vi_ hg2 (by omega), br_t (nI_le (b := 1) hp1 (by omega)) (br_t rfl K)⟩
theorem y_crD {m f g p C : Nat} {v : Int64} (hx : (v - 8589934592).toInt32 = nI f) (hf : f < 40) (hg : gn f = nI g) (hg2 : g < 96) (hp : b g = nI p) (hp1 : p ≤ 1) (hC : C < 6) (hk : ∀ q : Int32 → Prop, q 1 → wpY_function q (yd, yg, yN, yi, yo, yV, yF, (nI C), ys, yft, ybt, res, yer, ypl, ypr, rn, hs, gv, gt, op, a, b, pa, fi, nx, yp, wn, wu, gn, ge, wv, yl, ya, ye, yk, yt, yc, yst, yf, yr, ou) v) (K : wpY_finish post (yd, yg, yN, yi, yo, yV, yF, (nI (C + 1)), ys, yft, ybt, res, yer, ypl, ypr, rn, hs, gv, gt, op, a, b, pa, fi, nx, yp, wn, wu, gn, ge, wv, yl, ya, ye, yk, yt, yc, (upd yst (C + 1) 0), (upd yf (C + 1) (nI f)), yr, ou) (lN (12884901888 + C))) : wpY_create post (yd, yg, yN, yi, yo, yV, yF, (nI C), ys, yft, ybt, res, yer, ypl, ypr, rn, hs, gv, gt, op, a, b, pa, fi, nx, yp, wn, wu, gn, ge, wv, yl, ya, ye, yk, yt, yc, yst, yf, yr, ou) (nI m) v := by
  have ef := nc_ (n := f) (by omega)
  have eg := nc_ (n := g) (by omega)
  have ec' := nc_ (n := C + 1) (by omega)
  have w := vi_ (n := C + 1) (N := 7) (by omega) (by omega)
  unfold wpY_create
  dsimp only
  refine hk _ (br_f (by decide) ?_)
  rw [hx, ef, hg, eg, hp]
  refine ⟨vi_ hf (by omega), vi_ hg2 (by omega), br_t (nI_le (b := 1) hp1 (by omega)) (br_f (fun z => ?_) (nm_r (nI_1 C) ⟨w, nm_r (e' := upd yf (C + 1) (nI f)) (by rw [ec']) ⟨w, nm_r (e' := upd yst (C + 1) 0) (by rw [ec']) ?_⟩⟩))⟩
  · have := (nI_eq (a := C) (b := 6) (by omega) (by omega)).mp z
    omega
  · rw [vo_c (by omega)]
    exact K
end
section
variable {op a b fi nx pa : Nat → Int32} {N : Nat} {oc pc E lv : Nat → Nat} {kd : Nat → Nat → Nat} {SC : Nat → Int32 → Prop}
variable {F C V : Nat} {D : Nat → Int32 → Prop} {K T : Nat → Nat → Nat} {fN fX fS fT : Nat → Int32} {fL : Nat → Int64} {yl ya ye : Nat → Int32} {yk : Nat → Int64} {P H : Nat → Nat} {dep : Nat} {xh xc yt yc fn fe gn ge vn vo : Nat → Int32} {vv : Nat → Int64} {wn wu : Nat → Int32} {wv : Nat → Int64} {xst xf xr yst yf yr : Nat → Int32} {Q : Nat → Nat} {k s h : Nat}
variable {fu : Nat} {xN xL : Int32} {xp xl xo : Nat → Int32} {yN yi yo : Int32} {yp : Nat → Int32}
variable {ph ec en ft : Int32} {cr gv gt : Int64} {q w φ : Nat} {pv ou : Nat → Int64} {hs : Int32}
theorem sA_create {n i e : Nat} (ht : (ct_all op a b fi nx pa N oc pc E lv kd SC)) (hyp : ∀ n, n < N → xp n = nI (pc n) ∧ yp n = nI (pc n)) (h1 : (cc_C N oc pc E lv kd a b SC F C V D K T fN fX fS fT fL yl ya ye yk P H dep xh xc yt yc fn fe gn ge vn vo vv wn wu wv xst xf xr yst yf yr Q k s h)) (g1 : n < N) (g2 : oc n < 19) (g3 : i < pc n) (g4 : e ≤ V) (g5 : fN (s * 128 + h) = nI n) (g6 : fT (s * 128 + h) = nI (ct_tk (oc n) i)) (g7 : fS (s * 128 + h) = nI e) (g8 : yl (112 * s + (h + K s (h + 1) - cz_ s)) = nI n) (g9 : ya (112 * s + (h + K s (h + 1) - cz_ s)) = nI i) (g10 : ye (112 * s + (h + K s (h + 1) - cz_ s)) = nI e - 1) (g11 : ∀ c, ct_in oc a b SC n i c → D e c) (g12 : cf_S F C (oc n) i (fun q => fL ((s * 128 + h) * 4 + q)) (fun q => yk (3 * (112 * s + (h + K s (h + 1) - cz_ s)) + q))) (g13 : K s (h + 1) = K s h + (if oc n = 10 then 1 else 0)) (g14 : cz_ s ≤ K s (h + 1)) (g15 : h + 1 + K s (h + 1) ≤ 16 * K s (h + 1) + lv n + cz_ s) (hn : fX (s * 128 + h) = ct_nx pc kd n (i + 1)) (hT : T s h + 4 * (E n - E (kd n i)) + 3 ≤ T s (h + 1)) (b1 : K s (h + 1) ≤ dep) (b2 : T s (h + 1) + 2 ≤ P s) (b3 : xh s = nI (h + 1)) (b4 : yt s = nI (h + 1 + K s (h + 1) - cz_ s)) (b5 : xc s = nI (K s (h + 1))) (b6 : yc s = nI (K s (h + 1))) (hk : (cr_K φ fu q w F C P pv ou)) (hv : cv_R F C cr gt) (hd : oc n = 15) : ∃ u2 v2 kx, xs_ (kx + 1) ((nI dep), (nI fu), xN, xL, (nI F), (nI V), (nI C), (nI s), (-2), cr, ec, en, ft, (nI q), (nI w), op, a, b, xp, fi, xl, nx, xo, fn, fe, vn, vo, vv, xst, xf, xr, xh, xc, fN, fX, fS, fT, fL, pv) u2 ∧ (∀ post : SY → Prop, post v2 → wpY_deliver post ((nI dep), (nI fu), yN, yi, yo, (nI V), (nI F), (nI C), (nI s), ft, (nI q), 0, 0, (-1), (nI w), 1, 0, gv, gt, op, a, b, pa, fi, nx, yp, wn, wu, gn, ge, wv, yl, ya, ye, yk, yt, yc, yst, yf, yr, ou) gt) ∧ cr_T op a b fi nx pa N oc pc E lv kd SC dep fu xN xL xp xl xo yN yi yo yp φ (kx + 1) u2 v2 := by
  have h7 := (cc_s h1).2
  have h6 := cc_dep h1
  have hKK : K s h ≤ K s (h + 1) := by omega
  have hh := cf_h ht (cc_FR h1) (by omega)
  have hN := ht.2.1
  have hl := (ht.2.2.2.2 n g1).2.2.2.1.2 (by omega)
  have hzl := cz_le s
  have hw : h + K s (h + 1) - cz_ s < 112 := by omega
  have o_ : op n = nI (oc n) := ct_op ht g1 rfl
  have b4' : yt s = nI (h + K s (h + 1) - cz_ s + 1) := by rw [b4]; exact congrArg nI (by omega)
  have hpn := (ht.2.2.2.2 n g1).1.2.2.2
  have yp_ := (hyp n g1).2
  have hEn := ct_E ht g1
  have hkd := (ht.2.2.2.2 n g1).2.2.2.2.2.1
  have h10 : oc n ≠ 10 := by omega
  have hK0 : K s (h + 1) = K s h := by rw [g13, if_neg h10]; rfl
  have b4p : yt s = nI (h + K s h - cz_ s + 1) := by rw [← hK0]; exact b4'
  have g8p : yl (112 * s + (h + K s h - cz_ s)) = nI n := by rw [← hK0]; exact g8
  have b1p : K s h ≤ dep := by omega
  have b5p : xc s = nI (K s h) := by rw [← hK0]; exact b5
  have b6p : yc s = nI (K s h) := by rw [← hK0]; exact b6
  have hwp : h + K s h - cz_ s < 112 := by omega
  have hsh : 1 ≤ s → 1 ≤ h := fun hs1 => by
    have z1 := cz_1 hs1
    rcases Nat.eq_zero_or_pos h with hz | hz
    · subst hz
      have := h1.2.1 s
      omega
    · exact hz
  have hp1 := ct_p1 ht g1 (by omega)
  obtain rfl : i = 0 := by omega
  have o15 : op n = 15 := o_.trans (by rw [hd]; rfl)
  have e0 : vp_updL fL ((s * 128 + h) * 4 + 0) cr ((s * 128 + h) * 4) = cr := pk_uLs
  have hF4 := h1.1.1
  have hC6 := h1.1.2.1
  rcases xy_fun h1.1.1 h1.1.2.1 hv with ⟨f, c1, c2, c3, c4, c5⟩ | ⟨⟨kk, c1, c2⟩, c3⟩
  · obtain ⟨g, e', f1, f2, f3, f4, f5, f6, f7, f8⟩ := h1.2.2.2.1 f c1
    obtain ⟨p, r, p1, p2, p3, p4⟩ := (ht.2.2.2.2 g f1).2.1 f2
    have xi : cr.toInt32 = nI f := by rw [c2, vo_i2]
    have yi' : (gt - 8589934592).toInt32 = nI f := by rw [c3, vo_y2]
    rcases Nat.lt_or_ge 1 r with hr | hr
    · exact sA_raise ht hyp h1 g1 g2 g3 g4 g5 g6 g7 g8 g9 g10 g11 g12 g13 g14 g15 hn hT b1 b2 b3 b4 b5 b6 hk hv (Or.inr (Or.inl (by omega))) (by omega) 2 (fun post K => x_c15 h7 (by omega) g5 (by omega) o15 (by rw [e0]; exact x_crB (by omega) g5 xi (by omega) f4 (by omega) p2 hr (by omega) c4 K)) (fun post K => y_a15 h7 hw (by omega) o15 (y_crB yi' (by omega) f5 (by omega) p2 hr (by omega) (fun q hq => c5 q _ hq) K))
    · rcases Nat.lt_or_ge C 6 with hC | hC
      · have h2 := cc_tk (n := n) (i := 0) (x := cr) ht h1 b1p (by omega)
        have h3 := cc_new (f := f) (n := g) (q := r) ht h2 hC c1 f4 f1 p2 hr
        have hsC := (cc_s h1).1
        refine sA_ap ht hyp h1 g1 g2 g3 g4 g5 g6 g7 g8 g9 g10 g11 g12 g13 g14 g15 hn hT b1 b2 b3 b4 b5 b6 hk hv (Or.inr (Or.inl (by omega))) (by omega) (fun post K => x_c15 h7 (by omega) g5 (by omega) o15 (by rw [e0]; exact x_crD (by omega) g5 xi (by omega) f4 (by omega) p2 hr hC c4 (x_finish h7 ((pk_un (by omega)).trans b3) K))) (xs_0 _) (fun post K => y_a15 h7 hw (by omega) o15 (y_crD yi' (by omega) f5 (by omega) p2 hr hC (fun q hq => c5 q _ hq) (y_finish h7 b4p hwp g8p (by omega) o_ (by omega) h10 K))) (cr_pop ht h3 b1p ((pk_un (by omega)).trans b5p) b6p hsh (cr_Kmono hk (Nat.le_refl _) (Nat.le_succ _)) (by omega) (cv_co (by omega) (by omega)))
      · obtain rfl : C = 6 := by omega
        exact sA_raise ht hyp h1 g1 g2 g3 g4 g5 g6 g7 g8 g9 g10 g11 g12 g13 g14 g15 hn hT b1 b2 b3 b4 b5 b6 hk hv (Or.inr (Or.inl (by omega))) (by omega) 7 (fun post K => x_c15 h7 (by omega) g5 (by omega) o15 (by rw [e0]; exact x_crC (by omega) g5 xi (by omega) f4 (by omega) p2 hr c4 K)) (fun post K => y_a15 h7 hw (by omega) o15 (y_crC yi' (by omega) f5 (by omega) p2 hr (fun q hq => c5 q _ hq) K))
  · exact sA_raise ht hyp h1 g1 g2 g3 g4 g5 g6 g7 g8 g9 g10 g11 g12 g13 g14 g15 hn hT b1 b2 b3 b4 b5 b6 hk hv (Or.inr (Or.inl (by omega))) (by omega) 2 (fun post K => x_c15 h7 (by omega) g5 (by omega) o15 (by rw [e0]; exact x_crA (by omega) g5 c1 c2 K)) (fun post K => y_a15 h7 hw (by omega) o15 (y_crA (fun q hq => c3 q _ hq) K))
end
end
section
section
variable {xd xg xN xL xF xV xC xs ph : Int32} {cr : Int64} {ec en ft bt pr : Int32} {op a b xp fi xl nx xo fn fe vn vo : Nat → Int32} {vv : Nat → Int64} {xst xf xr xh xc fN fX fS fT : Nat → Int32} {fL pv : Nat → Int64}
theorem x_scan {post : SX → Prop} {s l : Nat} {x : Int64} (hs : s < 7) (K : wX_concludeReturn_47 post x (nI l) xd xg xN xL xF xV xC (nI s) ph cr ec en ft bt pr op a b xp fi xl nx xo fn fe vn vo vv xst xf xr xh xc fN fX fS fT fL pv) (hl : l = 0 ∨ (∃ m, fN (s * 128 + l) = nI m ∧ m < 96 ∧ op m = 10)) : ∀ d, l + d < 128 → (∀ i, l < i → i ≤ l + d → ∃ m, fN (s * 128 + i) = nI m ∧ m < 96 ∧ ¬ op m = 10) → ∀ f, wX_concludeReturn_12 post x xd xg xN xL xF xV xC (nI s) ph cr ec en ft bt pr op a b xp fi xl nx xo fn fe vn vo vv xst xf xr xh xc fN fX fS fT fL pv (f + d + 1) (nI (l + d)) := by
  intro d
  induction d with
  | zero =>
    intro h1 h2 f
    rcases Nat.eq_zero_or_pos l with hz | hz
    · subst hz
      exact br_t (by decide) K
    · rcases hl with hl | ⟨m, e1, e2, e3⟩
      · omega
      · have ei := nc_ (n := s * 128 + l) (by omega)
        have em := nc_ (n := m) (by omega)
        rw [Nat.add_zero l]
        refine br_f (nI_nle (by omega) (by omega)) ?_
        show vp_in (nI s * 128 + nI l) 896 ∧ _
        rw [ix_x0, ei, e1, em]
        exact ⟨vi_ (by omega) (by omega), vi_ e2 (by omega), br_t e3 K⟩
  | succ d ih =>
    intro h1 h2 f
    obtain ⟨m, e1, e2, e3⟩ := h2 (l + d + 1) (by omega) (by omega)
    have ei := nc_ (n := s * 128 + (l + d + 1)) (by omega)
    have em := nc_ (n := m) (by omega)
    rw [show l + (d + 1) = l + d + 1 by omega]
    refine br_f (nI_nle (by omega) (by omega)) ?_
    show vp_in (nI s * 128 + nI (l + d + 1)) 896 ∧ _
    rw [ix_x0, ei, e1, em]
    refine ⟨vi_ (by omega) (by omega), vi_ e2 (by omega), br_f e3 (nm_r (pk_m1 (l + d)) ?_)⟩
    exact ih (by omega) (fun i h3 h4 => h2 i h3 (by omega)) f
theorem x_ret {post : SX → Prop} {s h : Nat} {x : Int64} (hs : s < 7) (hh : xh s = nI (h + 1)) (K : ∃ f, wX_concludeReturn_12 post x xd xg xN xL xF xV xC (nI s) ph cr ec en ft bt pr op a b xp fi xl nx xo fn fe vn vo vv xst xf xr xh xc fN fX fS fT fL pv f (nI h)) : wpX_concludeReturn post (xd, xg, xN, xL, xF, xV, xC, (nI s), ph, cr, ec, en, ft, bt, pr, op, a, b, xp, fi, xl, nx, xo, fn, fe, vn, vo, vv, xst, xf, xr, xh, xc, fN, fX, fS, fT, fL, pv) x := by
  have e := nc_ (n := s) (by omega)
  exact ⟨vi_ hs (by omega), nm_r (e' := nI h) (by rw [e, hh, nI_pred]) K⟩
theorem x_ret47a {post : SX → Prop} {s l c : Nat} {x : Int64} (hs : s < 7) (hc : xc s = nI (c + 1)) (hc9 : c < 1000) (K : post (xd, xg, xN, xL, xF, xV, xC, (nI s), (-2), x, ec, en, ft, bt, pr, op, a, b, xp, fi, xl, nx, xo, fn, fe, vn, vo, vv, xst, xf, xr, (upd xh s (nI l)), (upd xc s (nI c)), fN, fX, fS, fT, fL, pv)) : wX_concludeReturn_47 post x (nI l) xd xg xN xL xF xV xC (nI s) ph cr ec en ft bt pr op a b xp fi xl nx xo fn fe vn vo vv xst xf xr xh xc fN fX fS fT fL pv := by
  have e := nc_ (n := s) (by omega)
  have w := vi_ (n := s) (N := 7) hs (by omega)
  refine ⟨w, br_f ?_ ⟨w, w, nm_r (e' := upd xc s (nI c)) (by rw [e, hc, nI_pred]) ⟨w, nm_r (e' := upd xh s (nI l)) (by rw [e]) K⟩⟩⟩
  rw [e, hc]; exact nI_nle (by omega) (by omega)
theorem x_ret47b {post : SX → Prop} {s l : Nat} {x : Int64} (hs : s < 7) (hc : xc s = nI 0) (K : post (xd, xg, xN, xL, xF, xV, xC, (nI s), (-2), x, ec, en, ft, bt, pr, op, a, b, xp, fi, xl, nx, xo, fn, fe, vn, vo, vv, xst, xf, xr, (upd xh s (nI l)), xc, fN, fX, fS, fT, fL, pv)) : wX_concludeReturn_47 post x (nI l) xd xg xN xL xF xV xC (nI s) ph cr ec en ft bt pr op a b xp fi xl nx xo fn fe vn vo vv xst xf xr xh xc fN fX fS fT fL pv := by
  have e := nc_ (n := s) (by omega)
  have w := vi_ (n := s) (N := 7) hs (by omega)
  refine ⟨w, br_t ?_ ⟨w, nm_r (e' := upd xh s (nI l)) (by rw [e]) K⟩⟩
  rw [e, hc]; decide
end
section
variable {yd yg yN yi yo yV yF yC ys yft ybt res yer ypl ypr rn hs : Int32} {gv gt : Int64} {op a b pa fi nx yp wn wu gn ge : Nat → Int32} {wv : Nat → Int64} {yl ya ye : Nat → Int32} {yk : Nat → Int64} {yt yc yst yf yr : Nat → Int32} {ou : Nat → Int64}
theorem y_scan {s wl : Nat} {v : Int64} (h7 : s < 7) (hf : ∃ m, yl (112 * s + wl) = nI m ∧ m < 96 ∧ op m = 10) : ∀ d (yt : Nat → Int32), yt s = nI (wl + d + 1) → wl + d < 112 → (∀ i, 1 ≤ i → i ≤ d → ∃ m, yl (112 * s + (wl + i)) = nI m ∧ m < 96 ∧ ¬ op m = 10) → ∃ yt' : Nat → Int32, yt' s = nI (wl + 1) ∧ (∀ x, upd yt' s x = upd yt s x) ∧ ∀ (post : SY → Prop) (f : Nat), wY_giveBack_62 post v yd yg yN yi yo yV yF yC (nI s) yft ybt res yer ypl ypr rn hs gv gt op a b pa fi nx yp wn wu gn ge wv yl ya ye yk yt' yc yst yf yr ou → wY_giveBack_0 post v yd yg yN yi yo yV yF yC (nI s) yft ybt res yer ypl ypr rn hs gv gt (f + d + 1) op a b pa fi nx yp wn wu gn ge wv yl ya ye yk yt yc yst yf yr ou := by
  have e := nc_ (n := s) (by omega)
  have v7 := vi_ (n := s) (N := 7) h7 (by omega)
  intro d
  induction d with
  | zero =>
    intro yt ht hw _
    obtain ⟨m, e1, e2, e3⟩ := hf
    have ei := nc_ (n := 112 * s + wl) (by omega)
    have em := nc_ (n := m) (by omega)
    refine ⟨yt, ht, fun x => rfl, fun post f K => ⟨v7, br_f ?_ ⟨v7, ?_⟩⟩⟩
    · rw [e, ht]; exact nI_nle (by omega) (by omega)
    · rw [e, ht]
      show vp_in (112 * nI s + nI (wl + 1) - 1) 784 ∧ _
      rw [Nat.add_zero, ix_y, ei, e1, em]
      exact ⟨vi_ (by omega) (by omega), vi_ e2 (by omega), br_t e3 K⟩
  | succ d ih =>
    intro yt ht hw h2
    obtain ⟨m, e1, e2, e3⟩ := h2 (d + 1) (by omega) (by omega)
    have ei := nc_ (n := 112 * s + (wl + (d + 1))) (by omega)
    have em := nc_ (n := m) (by omega)
    obtain ⟨yt', h5, h6, h8⟩ := ih (upd yt s (nI (wl + d + 1))) pk_us (by omega) (fun i h3 h4 => h2 i h3 (by omega))
    refine ⟨yt', h5, fun x => (h6 x).trans up_same, fun post f K => ⟨v7, br_f ?_ ⟨v7, ?_⟩⟩⟩
    · rw [e, ht]; exact nI_nle (by omega) (by omega)
    · rw [e, ht]
      show vp_in (112 * nI s + nI (wl + (d + 1) + 1) - 1) 784 ∧ _
      rw [ix_y, ei, e1, em]
      refine ⟨vi_ (by omega) (by omega), vi_ e2 (by omega), br_f e3 ⟨v7, v7, nm_r (e' := upd yt s (nI (wl + d + 1))) (by rw [nI_pred]; rfl) ?_⟩⟩
      exact h8 post f K
theorem y_scan0 {s : Nat} {v : Int64} (h7 : s < 7) : ∀ d (yt : Nat → Int32), yt s = nI d → d ≤ 112 → (∀ i, i < d → ∃ m, yl (112 * s + i) = nI m ∧ m < 96 ∧ ¬ op m = 10) → ∃ yt' : Nat → Int32, yt' s = nI 0 ∧ ∀ (post : SY → Prop) (f : Nat), wY_giveBack_62 post v yd yg yN yi yo yV yF yC (nI s) yft ybt res yer ypl ypr rn hs gv gt op a b pa fi nx yp wn wu gn ge wv yl ya ye yk yt' yc yst yf yr ou → wY_giveBack_0 post v yd yg yN yi yo yV yF yC (nI s) yft ybt res yer ypl ypr rn hs gv gt (f + d + 1) op a b pa fi nx yp wn wu gn ge wv yl ya ye yk yt yc yst yf yr ou := by
  have e := nc_ (n := s) (by omega)
  have v7 := vi_ (n := s) (N := 7) h7 (by omega)
  intro d
  induction d with
  | zero =>
    intro yt ht hw _
    refine ⟨yt, ht, fun post f K => ⟨v7, br_t ?_ K⟩⟩
    rw [e, ht]; decide
  | succ d ih =>
    intro yt ht hw h2
    obtain ⟨m, e1, e2, e3⟩ := h2 d (by omega)
    have ei := nc_ (n := 112 * s + d) (by omega)
    have em := nc_ (n := m) (by omega)
    obtain ⟨yt', h5, h8⟩ := ih (upd yt s (nI d)) pk_us (by omega) (fun i h3 => h2 i (by omega))
    refine ⟨yt', h5, fun post f K => ⟨v7, br_f ?_ ⟨v7, ?_⟩⟩⟩
    · rw [e, ht]; exact nI_nle (by omega) (by omega)
    · rw [e, ht]
      show vp_in (112 * nI s + nI (d + 1) - 1) 784 ∧ _
      rw [ix_y, ei, e1, em]
      exact ⟨vi_ (by omega) (by omega), vi_ e2 (by omega), br_f e3 ⟨v7, v7, nm_r (e' := upd yt s (nI d)) (by rw [nI_pred]) (h8 post f K)⟩⟩
theorem y_gb0 {post : SY → Prop} {s : Nat} {v : Int64} (h7 : s < 7) (ht : yt s = nI 0) (K : post (yd, yg, yN, yi, yo, yV, yF, yC, (nI s), yft, ybt, 0, yer, ypl, ypr, 0, hs, v, gt, op, a, b, pa, fi, nx, yp, wn, wu, gn, ge, wv, yl, ya, ye, yk, yt, yc, yst, yf, yr, ou)) : wY_giveBack_62 post v yd yg yN yi yo yV yF yC (nI s) yft ybt res yer ypl ypr rn hs gv gt op a b pa fi nx yp wn wu gn ge wv yl ya ye yk yt yc yst yf yr ou := by
  have e := nc_ (n := s) (by omega)
  exact ⟨vi_ h7 (by omega), br_t (by rw [e, ht]; rfl) K⟩
theorem y_gb1 {post : SY → Prop} {s w : Nat} {v : Int64} (h7 : s < 7) (ht : yt s = nI (w + 1)) (hw : w < 112) (K : wpY_finish post (yd, yg, yN, yi, yo, yV, yF, yC, (nI s), yft, ybt, res, yer, ypl, ypr, rn, hs, gv, gt, op, a, b, pa, fi, nx, yp, wn, wu, gn, ge, wv, yl, ya, ye, yk, yt, yc, yst, yf, yr, ou) v) : wY_giveBack_62 post v yd yg yN yi yo yV yF yC (nI s) yft ybt res yer ypl ypr rn hs gv gt op a b pa fi nx yp wn wu gn ge wv yl ya ye yk yt yc yst yf yr ou := by
  have e := nc_ (n := s) (by omega)
  exact ⟨vi_ h7 (by omega), br_f (by rw [e, ht]; exact nI_ne0 (by omega) (by omega)) K⟩
end
section
variable {op a b fi nx pa : Nat → Int32} {N : Nat} {oc pc E lv : Nat → Nat} {kd : Nat → Nat → Nat} {SC : Nat → Int32 → Prop}
variable {F C V : Nat} {D : Nat → Int32 → Prop} {K T : Nat → Nat → Nat} {fN fX fS fT : Nat → Int32} {fL : Nat → Int64} {yl ya ye : Nat → Int32} {yk : Nat → Int64} {P H : Nat → Nat} {dep : Nat} {xh xc yt yc fn fe gn ge vn vo : Nat → Int32} {vv : Nat → Int64} {wn wu : Nat → Int32} {wv : Nat → Int64} {xst xf xr yst yf yr : Nat → Int32} {Q : Nat → Nat} {k s h : Nat}
variable {fu : Nat} {xN xL : Int32} {xp xl xo : Nat → Int32} {yN yi yo : Int32} {yp : Nat → Int32}
variable {ph ec en ft : Int32} {cr gv gt : Int64} {q w φ : Nat} {pv ou : Nat → Int64} {hs : Int32}
/-- the topmost function among the waiting frames, or none -/
theorem cf_top (ht : (ct_all op a b fi nx pa N oc pc E lv kd SC)) (h1 : (cf_FR N oc pc E lv kd a b SC F C V D K T fN fX fS fT fL yl ya ye yk s h)) (hK0 : K s 0 = 0) (hK : K s h ≤ 6) : ∀ m, m ≤ h → (K s m = 0 ∧ ∀ i, i < m → ∃ n, n < N ∧ oc n ≠ 10 ∧ fN (s * 128 + i) = nI n ∧ yl (cy_ K s i) = nI n ∧ K s (i + 1) = 0) ∨ (∃ l, l < m ∧ K s m = K s (l + 1) ∧ K s (l + 1) = K s l + 1 ∧ (∃ n, n < N ∧ oc n = 10 ∧ fN (s * 128 + l) = nI n ∧ yl (cy_ K s l) = nI n) ∧ ∀ i, l < i → i < m → ∃ n, n < N ∧ oc n ≠ 10 ∧ fN (s * 128 + i) = nI n ∧ yl (cy_ K s i) = nI n ∧ K s (i + 1) = K s (l + 1)) := by
  intro m
  induction m with
  | zero => intro _; exact Or.inl ⟨hK0, fun i hi => by omega⟩
  | succ m ih =>
    intro hm
    obtain ⟨n, i, e, ⟨⟨g1, g2, g3, g4⟩, ⟨g5, g6, g7⟩, ⟨g8, g9, g10⟩, g11, g12, ⟨g13, g14, g15⟩⟩, hn, hT⟩ := h1 m (by omega)
    by_cases h10 : oc n = 10
    · rw [if_pos h10] at g13
      exact Or.inr ⟨m, by omega, rfl, g13, ⟨n, g1, h10, g5, g8⟩, fun i h3 h4 => by omega⟩
    · rw [if_neg h10] at g13
      rcases ih (by omega) with ⟨a1, a2⟩ | ⟨l, a1, a2, a3, a4, a5⟩
      · refine Or.inl ⟨by omega, fun i hi => ?_⟩
        rcases Nat.lt_or_ge i m with h3 | h3
        · exact a2 i h3
        · obtain rfl : i = m := by omega
          exact ⟨n, g1, h10, g5, g8, by omega⟩
      · refine Or.inr ⟨l, by omega, by omega, a3, a4, fun i h3 h4 => ?_⟩
        rcases Nat.lt_or_ge i m with h5 | h5
        · exact a5 i h3 h5
        · obtain rfl : i = m := by omega
          exact ⟨n, g1, h10, g5, g8, by omega⟩
theorem op_ne {n : Nat} (ht : (ct_all op a b fi nx pa N oc pc E lv kd SC)) (hn : n < N) (ho : oc n ≠ 10) : ¬ op n = 10 := fun h => by
  have h2 := (ct_op ht hn rfl).symm.trans h
  have := (nI_eq (a := oc n) (b := 10) (by have := (ht.2.2.2.2 n hn).1.1; omega) (by omega)).mp h2
  omega
theorem sA_ret {n i e : Nat} (ht : (ct_all op a b fi nx pa N oc pc E lv kd SC)) (hyp : ∀ n, n < N → xp n = nI (pc n) ∧ yp n = nI (pc n)) (h1 : (cc_C N oc pc E lv kd a b SC F C V D K T fN fX fS fT fL yl ya ye yk P H dep xh xc yt yc fn fe gn ge vn vo vv wn wu wv xst xf xr yst yf yr Q k s h)) (g1 : n < N) (g2 : oc n < 19) (g3 : i < pc n) (g4 : e ≤ V) (g5 : fN (s * 128 + h) = nI n) (g6 : fT (s * 128 + h) = nI (ct_tk (oc n) i)) (g7 : fS (s * 128 + h) = nI e) (g8 : yl (112 * s + (h + K s (h + 1) - cz_ s)) = nI n) (g9 : ya (112 * s + (h + K s (h + 1) - cz_ s)) = nI i) (g10 : ye (112 * s + (h + K s (h + 1) - cz_ s)) = nI e - 1) (g11 : ∀ c, ct_in oc a b SC n i c → D e c) (g12 : cf_S F C (oc n) i (fun q => fL ((s * 128 + h) * 4 + q)) (fun q => yk (3 * (112 * s + (h + K s (h + 1) - cz_ s)) + q))) (g13 : K s (h + 1) = K s h + (if oc n = 10 then 1 else 0)) (g14 : cz_ s ≤ K s (h + 1)) (g15 : h + 1 + K s (h + 1) ≤ 16 * K s (h + 1) + lv n + cz_ s) (hn : fX (s * 128 + h) = ct_nx pc kd n (i + 1)) (hT : T s h + 4 * (E n - E (kd n i)) + 3 ≤ T s (h + 1)) (b1 : K s (h + 1) ≤ dep) (b2 : T s (h + 1) + 2 ≤ P s) (b3 : xh s = nI (h + 1)) (b4 : yt s = nI (h + 1 + K s (h + 1) - cz_ s)) (b5 : xc s = nI (K s (h + 1))) (b6 : yc s = nI (K s (h + 1))) (hk : (cr_K φ fu q w F C P pv ou)) (hv : cv_R F C cr gt) (hd : oc n = 12) : ∃ u2 v2 kx, xs_ (kx + 1) ((nI dep), (nI fu), xN, xL, (nI F), (nI V), (nI C), (nI s), (-2), cr, ec, en, ft, (nI q), (nI w), op, a, b, xp, fi, xl, nx, xo, fn, fe, vn, vo, vv, xst, xf, xr, xh, xc, fN, fX, fS, fT, fL, pv) u2 ∧ (∀ post : SY → Prop, post v2 → wpY_deliver post ((nI dep), (nI fu), yN, yi, yo, (nI V), (nI F), (nI C), (nI s), ft, (nI q), 0, 0, (-1), (nI w), 1, 0, gv, gt, op, a, b, pa, fi, nx, yp, wn, wu, gn, ge, wv, yl, ya, ye, yk, yt, yc, yst, yf, yr, ou) gt) ∧ cr_T op a b fi nx pa N oc pc E lv kd SC dep fu xN xL xp xl xo yN yi yo yp φ (kx + 1) u2 v2 := by
  have h7 := (cc_s h1).2
  have h6 := cc_dep h1
  have hKK : K s h ≤ K s (h + 1) := by omega
  have hh := cf_h ht (cc_FR h1) (by omega)
  have hN := ht.2.1
  have hl := (ht.2.2.2.2 n g1).2.2.2.1.2 (by omega)
  have hzl := cz_le s
  have hw : h + K s (h + 1) - cz_ s < 112 := by omega
  have o_ : op n = nI (oc n) := ct_op ht g1 rfl
  have b4' : yt s = nI (h + K s (h + 1) - cz_ s + 1) := by rw [b4]; exact congrArg nI (by omega)
  have hpn := (ht.2.2.2.2 n g1).1.2.2.2
  have yp_ := (hyp n g1).2
  have hEn := ct_E ht g1
  have hkd := (ht.2.2.2.2 n g1).2.2.2.2.2.1
  have h10 : oc n ≠ 10 := by omega
  have hK0 : K s (h + 1) = K s h := by rw [g13, if_neg h10]; rfl
  have b4p : yt s = nI (h + K s h - cz_ s + 1) := by rw [← hK0]; exact b4'
  have g8p : yl (112 * s + (h + K s h - cz_ s)) = nI n := by rw [← hK0]; exact g8
  have b1p : K s h ≤ dep := by omega
  have b5p : xc s = nI (K s h) := by rw [← hK0]; exact b5
  have b6p : yc s = nI (K s h) := by rw [← hK0]; exact b6
  have hwp : h + K s h - cz_ s < 112 := by omega
  have hsh : 1 ≤ s → 1 ≤ h := fun hs1 => by
    have z1 := cz_1 hs1
    rcases Nat.eq_zero_or_pos h with hz | hz
    · subst hz
      have := h1.2.1 s
      omega
    · exact hz
  have hp1 := ct_p1 ht g1 (by omega)
  obtain rfl : i = 0 := by omega
  have o12 : op n = 12 := o_.trans (by rw [hd]; rfl)
  have e0 : vp_updL fL ((s * 128 + h) * 4 + 0) cr ((s * 128 + h) * 4) = cr := pk_uLs
  have h2 := cc_tk (n := n) (i := 0) (x := cr) ht h1 b1p (by omega)
  have hF := cc_FR h1
  have hφ2 : P s ≤ φ := by have h3 := sm_le (f := P) 7 h7; have h4 := hk.1.2.2.1; omega
  have hK00 := h1.2.1 s
  rcases cf_top ht hF (h1.2.1 s) (by omega) h (Nat.le_refl _) with ⟨a1, a2⟩ | ⟨l, a1, a2, a3, ⟨m, m1, m2, m3, m4⟩, a5⟩
  · have hs0 : s = 0 := by
      rcases Nat.eq_zero_or_pos s with hz | hz
      · exact hz
      · have := cz_1 hz; omega
    subst hs0
    have hz0 : cz_ 0 = 0 := rfl
    have hcy : ∀ i, K 0 (i + 1) = 0 → cy_ K 0 i = 112 * 0 + i := fun i hi => by unfold cy_; rw [hi, hz0]; rfl
    have xF : ∀ post : SX → Prop, post ((nI dep), (nI fu), xN, xL, (nI F), (nI V), (nI C), (nI 0), (-2), cr, ec, en, ft, (nI q), (nI w), op, a, b, xp, fi, xl, nx, xo, fn, fe, vn, vo, vv, xst, xf, xr, (upd xh 0 (nI 0)), xc, fN, fX, fS, (upd fT (0 * 128 + h) (nI (0 + 1))), (vp_updL fL ((0 * 128 + h) * 4 + 0) cr), pv) → wpX_conclude post ((nI dep), (nI fu), xN, xL, (nI F), (nI V), (nI C), (nI 0), (-1), cr, ec, en, ft, (nI q), (nI w), op, a, b, xp, fi, xl, nx, xo, fn, fe, vn, vo, vv, xst, xf, xr, xh, xc, fN, fX, fS, (upd fT (0 * 128 + h) (nI (0 + 1))), (vp_updL fL ((0 * 128 + h) * 4 + 0) cr), pv) (nI (0 * 128 + h)) := by
      intro post KK
      refine x_c12 h7 (by omega) g5 (by omega) o12 ?_
      rw [e0]
      refine x_ret h7 b3 ⟨0 + h + 1, ?_⟩
      have k47 : wX_concludeReturn_47 post cr (nI 0) (nI dep) (nI fu) xN xL (nI F) (nI V) (nI C) (nI 0) (-1) cr ec en ft (nI q) (nI w) op a b xp fi xl nx xo fn fe vn vo vv xst xf xr xh xc fN fX fS (upd fT (0 * 128 + h) (nI (0 + 1))) (vp_updL fL ((0 * 128 + h) * 4 + 0) cr) pv := x_ret47b h7 (by rw [b5p, a1]) KK
      have := x_scan (l := 0) h7 k47 (Or.inl rfl) h (by omega) (fun i h3 h4 => by
          rcases Nat.lt_or_ge i h with h5 | h5
          · obtain ⟨m, n1, n2, n3, _, _⟩ := a2 i h5
            exact ⟨m, n3, by omega, op_ne ht n1 n2⟩
          · obtain rfl : i = h := by omega
            exact ⟨n, g5, by omega, op_ne ht g1 h10⟩) 0
      rw [Nat.zero_add h] at this
      rw [Nat.zero_add h]
      exact this
    obtain ⟨yt', t1, t2⟩ := y_scan0 (yd := nI dep) (yg := nI fu) (yN := yN) (yi := yi) (yo := yo) (yV := nI V) (yF := nI F) (yC := nI C) (yft := ft) (ybt := nI q) (res := 0) (yer := 0) (ypl := -1) (ypr := nI w) (rn := 1) (hs := 0) (gv := gv) (gt := gt) (op := op) (a := a) (b := b) (pa := pa) (fi := fi) (nx := nx) (yp := yp) (wn := wn) (wu := wu) (gn := gn) (ge := ge) (wv := wv) (yl := yl) (ya := ya) (ye := ye) (yk := yk) (yc := yc) (yst := yst) (yf := yf) (yr := yr) (ou := ou) (s := 0) (v := gt) h7 (h + 1) yt (by rw [b4p, a1, hz0]; rfl) (by omega) (fun i h3 => by
          rcases Nat.lt_or_ge i h with h5 | h5
          · obtain ⟨m, n1, n2, _, n4, n5⟩ := a2 i h5
            rw [hcy i n5] at n4
            exact ⟨m, n4, by omega, op_ne ht n1 n2⟩
          · obtain rfl : i = h := by omega
            rw [a1, hz0] at g8p
            exact ⟨n, g8p, by omega, op_ne ht g1 h10⟩)
    exact sA_ap ht hyp h1 g1 g2 g3 g4 g5 g6 g7 g8 g9 g10 g11 g12 g13 g14 g15 hn hT b1 b2 b3 b4 b5 b6 hk hv (Or.inr (Or.inl (by omega))) (by omega) xF (xs_d (fun post KK => x_delM pk_us KK)) (fun post KK => y_a12 h7 hw (by omega) o12 ⟨0 + (h + 1) + 1, t2 post 0 (y_gb0 h7 t1 KK)⟩) (cr_mkE (by omega) h1.1.1 h1.1.2.1 (by have := hk.1.2.2.2; omega) (by decide) ⟨0, by omega, rfl, rfl, fun _ => hv, fun h => by omega, fun _ => ⟨rfl, rfl⟩⟩ hk.2)
  · have hTl := cf_Tle hF (h - l) l (by omega)
    have hKl := cf_Kle hF (h - l) l (by omega)
    have o10 : op m = 10 := ct_op ht m1 m2
    have xF : ∀ post : SX → Prop, post ((nI dep), (nI fu), xN, xL, (nI F), (nI V), (nI C), (nI s), (-2), cr, ec, en, ft, (nI q), (nI w), op, a, b, xp, fi, xl, nx, xo, fn, fe, vn, vo, vv, xst, xf, xr, (upd xh s (nI l)), (upd xc s (nI (K s l))), fN, fX, fS, (upd fT (s * 128 + h) (nI (0 + 1))), (vp_updL fL ((s * 128 + h) * 4 + 0) cr), pv) → wpX_conclude post ((nI dep), (nI fu), xN, xL, (nI F), (nI V), (nI C), (nI s), (-1), cr, ec, en, ft, (nI q), (nI w), op, a, b, xp, fi, xl, nx, xo, fn, fe, vn, vo, vv, xst, xf, xr, xh, xc, fN, fX, fS, (upd fT (s * 128 + h) (nI (0 + 1))), (vp_updL fL ((s * 128 + h) * 4 + 0) cr), pv) (nI (s * 128 + h)) := by
      intro post KK
      refine x_c12 h7 (by omega) g5 (by omega) o12 ?_
      rw [e0]
      refine x_ret h7 b3 ⟨0 + (h - l) + 1, ?_⟩
      have k47 : wX_concludeReturn_47 post cr (nI l) (nI dep) (nI fu) xN xL (nI F) (nI V) (nI C) (nI s) (-1) cr ec en ft (nI q) (nI w) op a b xp fi xl nx xo fn fe vn vo vv xst xf xr xh xc fN fX fS (upd fT (s * 128 + h) (nI (0 + 1))) (vp_updL fL ((s * 128 + h) * 4 + 0) cr) pv := x_ret47a h7 (by rw [b5p, a2, a3]) (by omega) KK
      have := x_scan (l := l) h7 k47 (Or.inr ⟨m, m3, by omega, o10⟩) (h - l) (by omega) (fun i h3 h4 => by
          rcases Nat.lt_or_ge i h with h5 | h5
          · obtain ⟨m', n1, n2, n3, _, _⟩ := a5 i h3 h5
            exact ⟨m', n3, by omega, op_ne ht n1 n2⟩
          · obtain rfl : i = h := by omega
            exact ⟨n, g5, by omega, op_ne ht g1 h10⟩) 0
      rw [show l + (h - l) = h by omega] at this
      exact this
    obtain ⟨yt', t1, t2, t3⟩ := y_scan (wl := l + K s (l + 1) - cz_ s) (yd := nI dep) (yg := nI fu) (yN := yN) (yi := yi) (yo := yo) (yV := nI V) (yF := nI F) (yC := nI C) (yft := ft) (ybt := nI q) (res := 0) (yer := 0) (ypl := -1) (ypr := nI w) (rn := 1) (hs := 0) (gv := gv) (gt := gt) (op := op) (a := a) (b := b) (pa := pa) (fi := fi) (nx := nx) (yp := yp) (wn := wn) (wu := wu) (gn := gn) (ge := ge) (wv := wv) (yl := yl) (ya := ya) (ye := ye) (yk := yk) (yc := yc) (yst := yst) (yf := yf) (yr := yr) (ou := ou) (s := s) (v := gt) h7 ⟨m, m4, by omega, o10⟩ (h - l) yt (by rw [b4p]; exact congrArg nI (by omega)) (by omega) (fun i h3 h4 => by
          rcases Nat.lt_or_ge (l + i) h with h5 | h5
          · obtain ⟨m', n1, n2, _, n4, n5⟩ := a5 (l + i) (by omega) h5
            have hc : cy_ K s (l + i) = 112 * s + (l + K s (l + 1) - cz_ s + i) := by unfold cy_; rw [n5]; omega
            rw [hc] at n4
            exact ⟨m', n4, by omega, op_ne ht n1 n2⟩
          · have hc : 112 * s + (h + K s h - cz_ s) = 112 * s + (l + K s (l + 1) - cz_ s + i) := by omega
            rw [hc] at g8p
            exact ⟨n, g8p, by omega, op_ne ht g1 h10⟩)
    have h3 : (cc_C N oc pc E lv kd a b SC F C V D K T fN fX fS (upd fT (s * 128 + h) (nI (0 + 1))) (vp_updL fL ((s * 128 + h) * 4 + 0) cr) yl ya ye yk P H dep xh (upd xc s (nI (K s l))) yt (upd yc s (nI (K s l))) fn fe gn ge vn vo vv wn wu wv xst xf xr yst yf yr Q k s l) := cc_fr ht (cc_to h2 (by omega)) (by omega) (by omega) (fun _ _ _ => rfl) (fun _ _ _ => rfl) ca_r ca_r ca_r ca_r ca_r ca_r ca_r ca_r ca_r ca_r ca_r (ca_u ca_r (by omega) (by omega)) ca_r (ca_u ca_r (by omega) (by omega))
    have b6c : yc s = nI (K s l + 1) := by rw [b6p, a2, a3]
    have hwl : l + K s (l + 1) - cz_ s < 112 := by omega
    by_cases hb : 1 ≤ s ∧ l = 0
    · obtain ⟨hs1, rfl⟩ := hb
      have hw0 : 0 + K s (0 + 1) - cz_ s = 0 := by rw [cz_1 hs1]; omega
      have h4 : (cc_C N oc pc E lv kd a b SC F C V D K T fN fX fS (upd fT (s * 128 + h) (nI (0 + 1))) (vp_updL fL ((s * 128 + h) * 4 + 0) cr) yl ya ye yk P H dep (upd xh s (nI 0)) (upd xc s (nI (K s 0))) (upd yt s (nI (0 + K s (0 + 1) - cz_ s))) (upd yc s (nI (K s 0))) fn fe gn ge vn vo vv wn wu wv xst xf xr yst yf yr Q k s 0) := cc_fr ht h3 (by omega) (by omega) (fun _ _ _ => rfl) (fun _ _ _ => rfl) ca_r ca_r ca_r ca_r ca_r ca_r ca_r ca_r ca_r ca_r (ca_u ca_r (by omega) (by omega)) ca_r (ca_u ca_r (by omega) (by omega)) ca_r
      obtain ⟨r, j, e1, e2, e3, e4, e5, e6, e7, e8⟩ := cr_leave (m := 0) (wd := 2) (d := 3) (ft := ft) (ec := ec) (en := en) (gv := gv) (xN := xN) (xL := xL) (xp := xp) (xl := xl) (xo := xo) (yN := yN) (yi := yi) (yo := yo) (yp := yp) ht h4 (by omega) hk hs1 (Or.inr rfl) (by omega) (fun h => by omega) hv
      exact sA_ap ht hyp h1 g1 g2 g3 g4 g5 g6 g7 g8 g9 g10 g11 g12 g13 g14 g15 hn hT b1 b2 b3 b4 b5 b6 hk hv (Or.inr (Or.inl (by omega))) (by omega) xF (xs_d (fun post KK => x_del0 hs1 h7 e1 pk_us e3 e5 KK)) (fun post KK => y_a12 h7 hw (by omega) o12 ⟨0 + (h - 0) + 1, t3 post 0 (y_gb1 h7 t1 hwl (y_finishF h7 t1 hwl m4 (by omega) o10 (by
        rw [t2]
        exact y_ret0 h7 e1 e4 e2 b6c (by rw [pk_us, hw0]) e6 KK)))⟩) e8
    · have hshl : 1 ≤ s → 1 ≤ l := fun hs1 => by
        rcases Nat.eq_zero_or_pos l with hz | hz
        · exact absurd ⟨hs1, hz⟩ hb
        · exact hz
      have hz := cf_z ht (cc_FR (cc_to h1 (show l ≤ h by omega))) (by omega) hshl
      have hw1 : l + K s (l + 1) - cz_ s = l + K s l - cz_ s + 1 := by omega
      exact sA_ap ht hyp h1 g1 g2 g3 g4 g5 g6 g7 g8 g9 g10 g11 g12 g13 g14 g15 hn hT b1 b2 b3 b4 b5 b6 hk hv (Or.inr (Or.inl (by omega))) (by omega) xF (xs_0 _) (fun post KK => y_a12 h7 hw (by omega) o12 ⟨0 + (h - l) + 1, t3 post 0 (y_gb1 h7 t1 hwl (y_finishF h7 t1 hwl m4 (by omega) o10 (by
        rw [t2]
        refine y_ret1 h7 b6c (by rw [pk_us, hw1]) (by omega) ?_
        rw [up_same]
        exact KK)))⟩) (cr_pop ht h3 (by omega) pk_us pk_us hshl hk (by omega) hv)
end
end
section
section
variable {xd xg xN xL xF xV xC xs ph : Int32} {cr : Int64} {ec en ft bt pr : Int32} {op a b xp fi xl nx xo fn fe vn vo : Nat → Int32} {vv : Nat → Int64} {xst xf xr xh xc fN fX fS fT : Nat → Int32} {fL pv : Nat → Int64}
variable {post : SX → Prop}
theorem x_caA {i m : Nat} {x : Int64} {k : Int32} (hi : i < 896) (hn : fN i = nI m) (hk : k ≠ 2) (hf : ∀ q : Int32 → Prop, q k → wpX_kindOf q x) (K : wpX_raise post (xd, xg, xN, xL, xF, xV, xC, xs, ph, cr, ec, en, ft, bt, pr, op, a, b, xp, fi, xl, nx, xo, fn, fe, vn, vo, vv, xst, xf, xr, xh, xc, fN, fX, fS, fT, fL, pv) 2 (nI m)) : wpX_concludeCall post (xd, xg, xN, xL, xF, xV, xC, xs, ph, cr, ec, en, ft, bt, pr, op, a, b, xp, fi, xl, nx, xo, fn, fe, vn, vo, vv, xst, xf, xr, xh, xc, fN, fX, fS, fT, fL, pv) (nI i) x := by
  have ei := nc_ (n := i) (by omega)
  exact ⟨vi_ hi (by omega), nm_r (e' := nI m) (by rw [ei, hn]) (hf _ (br_f hk K))⟩
/-- the callee is function f, of node g with p parameters; r arguments -/
theorem x_caK {i m f g p r : Nat} {x : Int64} (hi : i < 896) (hn : fN i = nI m) (hm : m < 96) (hx : x.toInt32 = nI f) (hf : f < 40) (hg : fn f = nI g) (hg2 : g < 96) (hp : b g = nI p) (hr : xp m = nI (r + 1)) (hk : ∀ q : Int32 → Prop, q 2 → wpX_kindOf q x)
    (K : (nI r = nI p → (vp_in xs 7 ∧ ((((xc xs.toNatClampNeg) < xd → ((((xV + nI p) ≤ 120 → (wpX_beat (fun r_13 u => match u with | (xd, xg, xN, xL, xF, xV, xC, xs, ph, cr, ec, en, ft, bt, pr, op, a, b, xp, fi, xl, nx, xo, fn, fe, vn, vo, vv, xst, xf, xr, xh, xc, fN, fX, fS, fT, fL, pv) => ((r_13 = 0 → (post (xd, xg, xN, xL, xF, xV, xC, xs, ph, cr, ec, en, ft, bt, pr, op, a, b, xp, fi, xl, nx, xo, fn, fe, vn, vo, vv, xst, xf, xr, xh, xc, fN, fX, fS, fT, fL, pv))) ∧ (¬ r_13 = 0 → (vp_in xs 7 ∧ (vp_in xs 7 ∧ ∀ y : Nat → Int32, y = upd xh xs.toNatClampNeg ((xh xs.toNatClampNeg) - 1) → wpX_enter post (xd, xg, xN, xL, xF, xV, xC, xs, ph, cr, ec, en, ft, bt, pr, op, a, b, xp, fi, xl, nx, xo, fn, fe, vn, vo, vv, xst, xf, xr, y, xc, fN, fX, fS, fT, fL, pv) (nI f) (nI i)))))) (xd, xg, xN, xL, xF, xV, xC, xs, ph, cr, ec, en, ft, bt, pr, op, a, b, xp, fi, xl, nx, xo, fn, fe, vn, vo, vv, xst, xf, xr, xh, xc, fN, fX, fS, fT, fL, pv))) ∧ (¬ (xV + nI p) ≤ 120 → (wpX_raise post (xd, xg, xN, xL, xF, xV, xC, xs, ph, cr, ec, en, ft, bt, pr, op, a, b, xp, fi, xl, nx, xo, fn, fe, vn, vo, vv, xst, xf, xr, xh, xc, fN, fX, fS, fT, fL, pv) 7 (nI m)))))) ∧ (¬ (xc xs.toNatClampNeg) < xd → (wpX_raise post (xd, xg, xN, xL, xF, xV, xC, xs, ph, cr, ec, en, ft, bt, pr, op, a, b, xp, fi, xl, nx, xo, fn, fe, vn, vo, vv, xst, xf, xr, xh, xc, fN, fX, fS, fT, fL, pv) 4 (nI m))))))) ∧ (¬ nI r = nI p → (wpX_raise post (xd, xg, xN, xL, xF, xV, xC, xs, ph, cr, ec, en, ft, bt, pr, op, a, b, xp, fi, xl, nx, xo, fn, fe, vn, vo, vv, xst, xf, xr, xh, xc, fN, fX, fS, fT, fL, pv) 3 (nI m)))) : wpX_concludeCall post (xd, xg, xN, xL, xF, xV, xC, xs, ph, cr, ec, en, ft, bt, pr, op, a, b, xp, fi, xl, nx, xo, fn, fe, vn, vo, vv, xst, xf, xr, xh, xc, fN, fX, fS, fT, fL, pv) (nI i) x := by
  have ei := nc_ (n := i) (by omega)
  have ef := nc_ (n := f) (by omega)
  have eg := nc_ (n := g) (by omega)
  have em := nc_ (n := m) (by omega)
  refine ⟨vi_ hi (by omega), nm_r (e' := nI m) (by rw [ei, hn]) (hk _ (br_t rfl ?_))⟩
  rw [hx, ef, hg, eg, hp]
  refine ⟨vi_ hf (by omega), vi_ hg2 (by omega), nm_r (e' := nI p) rfl ⟨vi_ hm (by omega), ?_⟩⟩
  rw [em, hr, nI_pred]
  exact K
theorem x_enter {i f g e : Nat} (hf : f < 40) (hg : fn f = nI g) (he : fe f = nI e) (K : ∃ n, wX_enter_18 post (nI i) (nI g) n (nI e) 0 xd xg xN xL xF xV xC xs ph cr ec en ft bt pr op a b xp fi xl nx xo fn fe vn vo vv xst xf xr xh xc fN fX fS fT fL pv) : wpX_enter post (xd, xg, xN, xL, xF, xV, xC, xs, ph, cr, ec, en, ft, bt, pr, op, a, b, xp, fi, xl, nx, xo, fn, fe, vn, vo, vv, xst, xf, xr, xh, xc, fN, fX, fS, fT, fL, pv) (nI f) (nI i) := by
  have ef := nc_ (n := f) (by omega)
  have w := vi_ (n := f) (N := 40) hf (by omega)
  exact ⟨w, nm_r (e' := nI g) (by rw [ef, hg]) ⟨w, nm_r (e' := nI e) (by rw [ef, he]) K⟩⟩
theorem x_e71 {s h m c : Nat} {sc : Int32} (hs : s < 7) (hh : xh s = nI h) (hb : h < 128) (hm : m < 96) (ho : op m = 10) (hc : xc s = nI c)
    (K : post (xd, xg, xN, xL, xF, xV, xC, (nI s), ph, cr, ec, en, ft, bt, pr, op, a, b, xp, fi, xl, nx, xo, fn, fe, vn, vo, vv, xst, xf, xr, (upd xh s (nI (h + 1))), (upd xc s (nI (c + 1))), (upd fN (s * 128 + h) (nI m)), (upd fX (s * 128 + h) (fi m)), (upd fS (s * 128 + h) sc), (upd fT (s * 128 + h) 0), (vp_updL fL ((s * 128 + h) * 4) 0), pv)) : wX_enter_71 post (nI m) sc xd xg xN xL xF xV xC (nI s) ph cr ec en ft bt pr op a b xp fi xl nx xo fn fe vn vo vv xst xf xr xh xc fN fX fS fT fL pv := by
  have e := nc_ (n := s) (by omega)
  have w := vi_ (n := s) (N := 7) hs (by omega)
  exact ⟨w, w, nm_r (e' := upd xc s (nI (c + 1))) (by rw [e, hc, nI_1]) (x_push hs hh hb hm (fun h => absurd (h.symm.trans ho) (by decide)) (fun _ => rfl) K)⟩
end
section
variable {yd yg yN yi yo yV yF yC ys yft ybt res yer ypl ypr rn hs : Int32} {gv gt : Int64} {op a b pa fi nx yp wn wu gn ge : Nat → Int32} {wv : Nat → Int64} {yl ya ye : Nat → Int32} {yk : Nat → Int64} {yt yc yst yf yr : Nat → Int32} {ou : Nat → Int64}
variable {post : SY → Prop}
theorem y_call {s w n r : Nat} {v z : Int64} (h7 : s < 7) (hw : w < 112) (hn : n < 96) (hp : yp n = nI (r + 1)) (hr : r < 100) (hz1 : r = 0 → z = v) (hz2 : r ≠ 0 → z = yk (3 * (112 * s + w))) (K : wY_call_27 post (nI (112 * s + w)) (nI n) v (nI r) z yd yg yN yi yo yV yF yC (nI s) yft ybt res yer ypl ypr rn hs gv gt op a b pa fi nx yp wn wu gn ge wv yl ya ye yk yt yc yst yf yr ou) : wpY_call post (yd, yg, yN, yi, yo, yV, yF, yC, (nI s), yft, ybt, res, yer, ypl, ypr, rn, hs, gv, gt, op, a, b, pa, fi, nx, yp, wn, wu, gn, ge, wv, yl, ya, ye, yk, yt, yc, yst, yf, yr, ou) (nI (112 * s + w)) (nI n) v := by
  have e2 := nc_ (n := n) (by omega)
  have e3 := nc_ (n := 3 * (112 * s + w)) (by omega)
  have v3 : vp_in (3 * nI (112 * s + w)) 2352 := by rw [ix_3]; exact vi_ (by omega) (by omega)
  refine ⟨vi_ hn (by omega), nm_r (e' := nI r) (by rw [e2, hp, nI_pred]) ?_⟩
  by_cases h0 : r = 0
  · subst h0
    rw [hz1 rfl] at K
    exact br_t rfl K
  · rw [hz2 h0] at K
    refine br_f (nI_ne0 (by omega) (by omega)) ⟨v3, ?_⟩
    rw [ix_3, e3]
    exact K
theorem y_caA {p n : Int32} {r : Int32} {v z : Int64} (hf : ∀ q : Int32 → Prop, q 0 → wpY_function q (yd, yg, yN, yi, yo, yV, yF, yC, ys, yft, ybt, res, yer, ypl, ypr, rn, hs, gv, gt, op, a, b, pa, fi, nx, yp, wn, wu, gn, ge, wv, yl, ya, ye, yk, yt, yc, yst, yf, yr, ou) z) (K : wpY_raise post (yd, yg, yN, yi, yo, yV, yF, yC, ys, yft, ybt, res, yer, ypl, ypr, rn, hs, gv, gt, op, a, b, pa, fi, nx, yp, wn, wu, gn, ge, wv, yl, ya, ye, yk, yt, yc, yst, yf, yr, ou) 2 n) : wY_call_27 post p n v r z yd yg yN yi yo yV yF yC ys yft ybt res yer ypl ypr rn hs gv gt op a b pa fi nx yp wn wu gn ge wv yl ya ye yk yt yc yst yf yr ou := by
  unfold wY_call_27
  exact hf _ (br_t rfl K)
theorem y_caK {f g p : Nat} {pp n r : Int32} {v z : Int64} (hx : (z - 8589934592).toInt32 = nI f) (hf : f < 40) (hg : gn f = nI g) (hg2 : g < 96) (hp : b g = nI p) (hk : ∀ q : Int32 → Prop, q 1 → wpY_function q (yd, yg, yN, yi, yo, yV, yF, yC, ys, yft, ybt, res, yer, ypl, ypr, rn, hs, gv, gt, op, a, b, pa, fi, nx, yp, wn, wu, gn, ge, wv, yl, ya, ye, yk, yt, yc, yst, yf, yr, ou) z)
    (K : (nI p = r → (vp_in ys 7 ∧ ((((yc ys.toNatClampNeg) = yd → (wpY_raise post (yd, yg, yN, yi, yo, yV, yF, yC, ys, yft, ybt, res, yer, ypl, ypr, rn, hs, gv, gt, op, a, b, pa, fi, nx, yp, wn, wu, gn, ge, wv, yl, ya, ye, yk, yt, yc, yst, yf, yr, ou) 4 n)) ∧ (¬ (yc ys.toNatClampNeg) = yd → ((((yV + nI p) ≤ 120 → (wpY_beat (fun r_56 u => match u with | (yd, yg, yN, yi, yo, yV, yF, yC, ys, yft, ybt, res, yer, ypl, ypr, rn, hs, gv, gt, op, a, b, pa, fi, nx, yp, wn, wu, gn, ge, wv, yl, ya, ye, yk, yt, yc, yst, yf, yr, ou) => ((r_56 = 0 → (post (yd, yg, yN, yi, yo, yV, yF, yC, ys, yft, ybt, res, yer, ypl, ypr, rn, hs, gv, gt, op, a, b, pa, fi, nx, yp, wn, wu, gn, ge, wv, yl, ya, ye, yk, yt, yc, yst, yf, yr, ou))) ∧ (¬ r_56 = 0 → (vp_in (nI f) 40 ∧ ∀ x : Int32, x = ge f → ∃ n155 : Nat, wY_call_155 post pp v r (nI g) n155 x 0 yd yg yN yi yo yV yF yC ys yft ybt res yer ypl ypr rn hs gv gt op a b pa fi nx yp wn wu gn ge wv yl ya ye yk yt yc yst yf yr ou)))) (yd, yg, yN, yi, yo, yV, yF, yC, ys, yft, ybt, res, yer, ypl, ypr, rn, hs, gv, gt, op, a, b, pa, fi, nx, yp, wn, wu, gn, ge, wv, yl, ya, ye, yk, yt, yc, yst, yf, yr, ou))) ∧ (¬ (yV + nI p) ≤ 120 → (wpY_raise post (yd, yg, yN, yi, yo, yV, yF, yC, ys, yft, ybt, res, yer, ypl, ypr, rn, hs, gv, gt, op, a, b, pa, fi, nx, yp, wn, wu, gn, ge, wv, yl, ya, ye, yk, yt, yc, yst, yf, yr, ou) 7 n))))))))) ∧ (¬ nI p = r → (wpY_raise post (yd, yg, yN, yi, yo, yV, yF, yC, ys, yft, ybt, res, yer, ypl, ypr, rn, hs, gv, gt, op, a, b, pa, fi, nx, yp, wn, wu, gn, ge, wv, yl, ya, ye, yk, yt, yc, yst, yf, yr, ou) 3 n))) : wY_call_27 post pp n v r z yd yg yN yi yo yV yF yC ys yft ybt res yer ypl ypr rn hs gv gt op a b pa fi nx yp wn wu gn ge wv yl ya ye yk yt yc yst yf yr ou := by
  have ef := nc_ (n := f) (by omega)
  have eg := nc_ (n := g) (by omega)
  unfold wY_call_27
  refine hk _ (br_f (by decide) ?_)
  rw [hx, ef, hg]
  refine ⟨vi_ hf (by omega), nm_r (e' := nI g) rfl ⟨vi_ hg2 (by omega), nm_r (e' := nI p) (by rw [eg, hp]) ?_⟩⟩
  exact K
theorem y_begin1 {s w m c : Nat} {sc : Int32} (h7 : s < 7) (hm : m < 96) (hc : yc s = nI c) (hp : ∃ p, 0 < p ∧ p < 1000 ∧ yp m = nI p) (ht : yt s = nI w) (hw : w < 112) (K : post (yd, yg, yN, yi, yo, yV, yF, yC, (nI s), yft, ybt, res, yer, ypl, ypr, rn, hs, gv, gt, op, a, b, pa, fi, nx, yp, wn, wu, gn, ge, wv, (upd yl (112 * s + w) (nI m)), (upd ya (112 * s + w) 0), (upd ye (112 * s + w) sc), yk, (upd yt s (nI (w + 1))), (upd yc s (nI (c + 1))), yst, yf, yr, ou)) : wpY_begin post (yd, yg, yN, yi, yo, yV, yF, yC, (nI s), yft, ybt, res, yer, ypl, ypr, rn, hs, gv, gt, op, a, b, pa, fi, nx, yp, wn, wu, gn, ge, wv, yl, ya, ye, yk, yt, yc, yst, yf, yr, ou) (nI m) sc := by
  have e := nc_ (n := s) (by omega)
  have em := nc_ (n := m) (by omega)
  have v7 := vi_ (n := s) (N := 7) h7 (by omega)
  obtain ⟨p, p1, p2, p3⟩ := hp
  refine ⟨v7, v7, nm_r (e' := upd yc s (nI (c + 1))) (by rw [e, hc, nI_1]) ⟨vi_ hm (by omega), br_f ?_ (y_push h7 ht hw K)⟩⟩
  rw [em, p3]; exact nI_nle p1 (by omega)
theorem y_begin0 {s m c : Nat} {sc : Int32} (h7 : s < 7) (hm : m < 96) (hc : yc s = nI c) (hp : yp m = nI 0) (K : wpY_returned post (yd, yg, yN, yi, yo, yV, yF, yC, (nI s), yft, ybt, res, yer, ypl, ypr, rn, hs, gv, gt, op, a, b, pa, fi, nx, yp, wn, wu, gn, ge, wv, yl, ya, ye, yk, yt, (upd yc s (nI (c + 1))), yst, yf, yr, ou) 4294967296) : wpY_begin post (yd, yg, yN, yi, yo, yV, yF, yC, (nI s), yft, ybt, res, yer, ypl, ypr, rn, hs, gv, gt, op, a, b, pa, fi, nx, yp, wn, wu, gn, ge, wv, yl, ya, ye, yk, yt, yc, yst, yf, yr, ou) (nI m) sc := by
  have e := nc_ (n := s) (by omega)
  have em := nc_ (n := m) (by omega)
  have v7 := vi_ (n := s) (N := 7) h7 (by omega)
  refine ⟨v7, v7, nm_r (e' := upd yc s (nI (c + 1))) (by rw [e, hc, nI_1]) ⟨vi_ hm (by omega), br_t ?_ K⟩⟩
  rw [em, hp]; decide
end
section
variable {op a b fi nx pa : Nat → Int32} {N : Nat} {oc pc E lv : Nat → Nat} {kd : Nat → Nat → Nat} {SC : Nat → Int32 → Prop}
variable {F C V : Nat} {D : Nat → Int32 → Prop} {K T : Nat → Nat → Nat} {fN fX fS fT : Nat → Int32} {fL : Nat → Int64} {yl ya ye : Nat → Int32} {yk : Nat → Int64} {P H : Nat → Nat} {dep : Nat} {xh xc yt yc fn fe gn ge vn vo : Nat → Int32} {vv : Nat → Int64} {wn wu : Nat → Int32} {wv : Nat → Int64} {xst xf xr yst yf yr : Nat → Int32} {Q : Nat → Nat} {k s h : Nat}
variable {fu : Nat} {xN xL : Int32} {xp xl xo : Nat → Int32} {yN yi yo : Int32} {yp : Nat → Int32}
variable {ph ec en ft : Int32} {cr gv gt : Int64} {q w φ : Nat} {pv ou : Nat → Int64} {hs : Int32}
/-- the parameters become variables -/
theorem call_vars {m q0 I0 J0 : Nat} (ht : (ct_all op a b fi nx pa N oc pc E lv kd SC)) (hK : K s h ≤ dep) (hm : m < N) (hb : b m = nI q0) (hq3 : q0 ≤ 3) (hI : I0 < 896) (hJ : J0 < 784) (hval : ∀ t, t < q0 → cv_R F C (fL (I0 * 4 + 1 + t)) (if t + 1 = q0 then gt else yk (3 * J0 + t + 1))) :
    ∀ d t, t + d = q0 → ∀ (V : Nat) (D : Nat → Int32 → Prop) (vn vo : Nat → Int32) (vv : Nat → Int64) (wn wu : Nat → Int32) (wv : Nat → Int64) (e : Nat), (cc_C N oc pc E lv kd a b SC F C V D K T fN fX fS fT fL yl ya ye yk P H dep xh xc yt yc fn fe gn ge vn vo vv wn wu wv xst xf xr yst yf yr Q k s h) → V + d ≤ 120 → e ≤ V → (∀ c, SC m c → D e c) → (∀ r, r < t → D e (a m + nI r)) →
      ∃ (V' : Nat) (D' : Nat → Int32 → Prop) (vn' vo' : Nat → Int32) (vv' : Nat → Int64) (wn' wu' : Nat → Int32) (wv' : Nat → Int64) (e' : Nat), (cc_C N oc pc E lv kd a b SC F C V' D' K T fN fX fS fT fL yl ya ye yk P H dep xh xc yt yc fn fe gn ge vn' vo' vv' wn' wu' wv' xst xf xr yst yf yr Q k s h) ∧ e' ≤ V' ∧ (∀ c, SC m c → D' e' c) ∧ (∀ r, r < q0 → D' e' (a m + nI r))
        ∧ (∀ (post : SX → Prop) (f : Nat), wX_enter_71 post (nI m) (nI e') (nI dep) (nI fu) xN xL (nI F) (nI V') (nI C) (nI s) ph cr ec en ft (nI q) (nI w) op a b xp fi xl nx xo fn fe vn' vo' vv' xst xf xr xh xc fN fX fS fT fL pv → wX_enter_18 post (nI I0) (nI m) (f + d + 1) (nI e) (nI t) (nI dep) (nI fu) xN xL (nI F) (nI V) (nI C) (nI s) ph cr ec en ft (nI q) (nI w) op a b xp fi xl nx xo fn fe vn vo vv xst xf xr xh xc fN fX fS fT fL pv)
        ∧ (∀ (post : SY → Prop) (f : Nat), wpY_begin post ((nI dep), (nI fu), yN, yi, yo, (nI V'), (nI F), (nI C), (nI s), ft, (nI q), 0, 0, (-1), (nI w), 1, hs, gv, gt, op, a, b, pa, fi, nx, yp, wn', wu', gn, ge, wv', yl, ya, ye, yk, yt, yc, yst, yf, yr, ou) (nI m) (nI e' - 1) → wY_call_155 post (nI J0) gt (nI q0) (nI m) (f + d + 1) (nI e - 1) (nI t) (nI dep) (nI fu) yN yi yo (nI V) (nI F) (nI C) (nI s) ft (nI q) 0 0 (-1) (nI w) 1 hs gv gt op a b pa fi nx yp wn wu gn ge wv yl ya ye yk yt yc yst yf yr ou) := by
  have hN := ht.2.1
  have em := nc_ (n := m) (by omega)
  have wm := vi_ (n := m) (N := 96) (by omega) (by omega)
  intro d
  induction d with
  | zero =>
    intro t htq V D vn vo vv wn wu wv e h1 hV he hS hp
    obtain rfl : t = q0 := by omega
    refine ⟨V, D, vn, vo, vv, wn, wu, wv, e, h1, he, hS, hp, fun post f KK => ⟨wm, br_t ?_ KK⟩, fun post f KK => br_t (nI_le (Nat.le_refl _) (by omega)) KK⟩
    rw [em, hb]; exact nI_le (Nat.le_refl _) (by omega)
  | succ d ih =>
    intro t htq V D vn vo vv wn wu wv e h1 hV he hS hp
    have h6 := cc_dep h1
    have hh := cf_h ht (cc_FR h1) (by omega)
    have h2 := cc_var (m := a m + nI t) ht h1 (by omega) (by omega) (by omega) he (hval t (by omega)) ca_r ca_r ca_r ca_r
    obtain ⟨V', D', vn', vo', vv', wn', wu', wv', e', k1, k2, k3, k4, k5, k6⟩ := ih (t + 1) (by omega) (V + 1) _ _ _ _ _ _ _ (V + 1) h2 (by omega) (Nat.le_refl _) (fun c hc => cd_D_new.mpr (Or.inr (hS c hc))) (fun r hr => by
      by_cases hrt : r = t
      · rw [hrt]; exact cd_D_new.mpr (Or.inl rfl)
      · exact cd_D_new.mpr (Or.inr (hp r (by omega))))
    refine ⟨V', D', vn', vo', vv', wn', wu', wv', e', k1, k2, k3, k4, fun post f KK => ?_, fun post f KK => ?_⟩
    · have e5 := nc_ (n := I0 * 4 + 1 + t) (by omega)
      refine ⟨wm, br_f ?_ (br_f (nI_ge (b := 3) (by omega) (by omega)) ⟨wm, ?_, ?_⟩)⟩
      · rw [em, hb]; exact nI_ge (by omega) (by omega)
      · rw [ix_41, nI_add]; exact vi_ (by omega) (by omega)
      · rw [ix_41, nI_add, e5, em]
        refine x_var (by omega) ?_
        exact nm_r (nI_1 t) (k5 post f KK)
    · have e5 := nc_ (n := 3 * J0 + t + 1) (by omega)
      have A : ∀ z : Int64, z = (if t + 1 = q0 then gt else yk (3 * J0 + t + 1)) → wY_call_199 post (wY_call_155 post (nI J0) gt (nI q0) (nI m) (f + (d + 1))) (nI J0) gt (nI q0) (nI m) (nI e - 1) (nI t) z (a m + nI t) (nI dep) (nI fu) yN yi yo (nI V) (nI F) (nI C) (nI s) ft (nI q) 0 0 (-1) (nI w) 1 hs gv gt op a b pa fi nx yp wn wu gn ge wv yl ya ye yk yt yc yst yf yr ou := by
        intro z hz
        unfold wY_call_199
        rw [hz]
        refine y_var (by omega) ?_
        refine nm_r (nI_1 t) ?_
        have := k6 post f KK
        rw [nI_pred] at this
        exact this
      refine br_f (nI_ge (by omega) (by omega)) ⟨wm, br_c (fun hq => ?_) (fun hq => ⟨?_, ?_⟩)⟩
      · rw [nI_1, nI_eq (by omega) (by omega)] at hq
        rw [em]
        exact A gt (by rw [if_pos hq])
      · have hq2 : t + 1 ≠ q0 := fun z => hq (by rw [nI_1, z])
        rw [ix_3, nI_add, nI_1]; exact vi_ (by omega) (by omega)
      · rw [nI_1, nI_eq (by omega) (by omega)] at hq
        rw [ix_3, nI_add, nI_1, e5, em]
        exact A _ (by rw [if_neg hq])
/-- a function's frame, if it has parts -/
theorem enter_1 {m e q0 d φ' : Nat} (ht : (ct_all op a b fi nx pa N oc pc E lv kd SC)) (hyp : ∀ n, n < N → xp n = nI (pc n) ∧ yp n = nI (pc n)) (h1 : (cc_C N oc pc E lv kd a b SC F C V D K T fN fX fS fT fL yl ya ye yk P H dep xh xc yt yc fn fe gn ge vn vo vv wn wu wv xst xf xr yst yf yr Q k s h)) (hKd : K s h + 1 ≤ dep) (hz : cz_ s ≤ K s h + 1) (hm : m < N) (ho : oc m = 10) (hb : b m = nI q0) (hq3 : q0 ≤ 3) (he : e ≤ V) (hS : ∀ c, SC m c → D e c) (hpar : ∀ r, r < q0 → D e (a m + nI r)) (hlev : h + 1 + (K s h + 1) ≤ 16 * (K s h + 1) + lv m + cz_ s) (hxh : xh s = nI h) (hyt : yt s = nI (h + (K s h + 1) - cz_ s)) (hx : xc s = nI (K s h)) (hy : yc s = nI (K s h)) (hpm : 0 < pc m) (hφ : φ' + d ≤ φ) (hk' : (cr_K φ' fu q w F C (ch_ P s (T s h + 4 * (E m - kd m 0) + 3)) pv ou)) :
    ∃ u2 v2, (∀ post : SX → Prop, post u2 → wX_enter_71 post (nI m) (nI e) (nI dep) (nI fu) xN xL (nI F) (nI V) (nI C) (nI s) (-1) cr ec en ft (nI q) (nI w) op a b xp fi xl nx xo fn fe vn vo vv xst xf xr xh xc fN fX fS fT fL pv) ∧ (∀ post : SY → Prop, post v2 → wpY_begin post ((nI dep), (nI fu), yN, yi, yo, (nI V), (nI F), (nI C), (nI s), ft, (nI q), 0, 0, (-1), (nI w), 1, 0, gv, gt, op, a, b, pa, fi, nx, yp, wn, wu, gn, ge, wv, yl, ya, ye, yk, yt, yc, yst, yf, yr, ou) (nI m) (nI e - 1)) ∧ cr_T op a b fi nx pa N oc pc E lv kd SC dep fu xN xL xp xl xo yN yi yo yp φ d u2 v2 := by
  have h7 := (cc_s h1).2
  have h6 := cc_dep h1
  have hN := ht.2.1
  have hh := cf_h ht (cc_FR h1) (by omega)
  have hl := (ht.2.2.2.2 m hm).2.2.2.1
  have hl2 := hl.2 (by omega)
  have hzl := cz_le s
  have o10 : op m = 10 := ct_op ht hm ho
  have hpn := (ht.2.2.2.2 m hm).1.2.2.2
  have hf0 : fi m = nI (kd m 0) := (ht.2.2.2.2 m hm).2.2.2.2.1.2 hpm
  have h2 : (cc_C N oc pc E lv kd a b SC F C V D K T fN fX fS fT fL yl ya ye yk P H dep xh (upd xc s (nI (K s h + 1))) yt (upd yc s (nI (K s h + 1))) fn fe gn ge vn vo vv wn wu wv xst xf xr yst yf yr Q k s h) := cc_fr ht h1 (by omega) (by omega) (fun _ _ _ => rfl) (fun _ _ _ => rfl) ca_r ca_r ca_r ca_r ca_r ca_r ca_r ca_r ca_r ca_r ca_r (ca_u ca_r (by omega) (by omega)) ca_r (ca_u ca_r (by omega) (by omega))
  refine ⟨_, _, fun post KK => x_e71 h7 hxh (by omega) (by omega) o10 hx KK, fun post KK => y_begin1 h7 (by omega) hy ⟨pc m, hpm, by omega, (hyp m hm).2⟩ hyt (by omega) KK, ?_⟩
  have := cr_new (e := e) (k1 := K s h + 1) (q' := q) (d := d) (φ' := φ') (xN := xN) (xL := xL) (xp := xp) (xl := xl) (xo := xo) (yN := yN) (yi := yi) (yo := yo) (yp := yp) (ec := ec) (en := en) (ft := ft) (cr := cr) (gv := gv) (gt := gt) ht h2 (by omega) (by rw [if_pos ho]) hKd hz hm (by omega) hpm he (fun c hc => by
    rcases hc with hc | hc | hc
    · exact hS c hc
    · omega
    · obtain ⟨p, q1, p1, p2, p3, p4⟩ := (ht.2.2.2.2 m hm).2.1 ho
      have hqq : q1 = q0 := (nI_eq (by omega) (by omega)).mp (p2.symm.trans hb)
      obtain ⟨_, c1, c2⟩ := hc
      rw [p1, p2, nI_add] at c2
      rw [p1] at c1
      have c0 : ¬ c < 0 := fun hneg => by
        have z1 := Int32.lt_of_le_of_lt c1 hneg
        exact absurd z1 (nI_pos (by omega))
      obtain ⟨j, j1, j2⟩ := nI_of c0
      rw [j2, nI_leI (by omega) j1] at c1
      rw [j2, nI_ltI j1 (by omega)] at c2
      have := hpar (j - p) (by omega)
      rw [p1, nI_add, show p + (j - p) = j by omega] at this
      rw [j2]; exact this) hlev pk_us pk_us hφ hk'
  rw [hf0, show h + (K s h + 1) - cz_ s + 1 = h + 1 + (K s h + 1) - cz_ s by omega]
  exact this
end
end
section
section
variable {xd xg xN xL xF xV xC xs ph : Int32} {cr : Int64} {ec en ft bt pr : Int32} {op a b xp fi xl nx xo fn fe vn vo : Nat → Int32} {vv : Nat → Int64} {xst xf xr xh xc fN fX fS fT : Nat → Int32} {fL pv : Nat → Int64}
variable {post : SX → Prop}
theorem x_ca3 {i m f g p r : Nat} {x : Int64} (hi : i < 896) (hn : fN i = nI m) (hm : m < 96) (hx : x.toInt32 = nI f) (hf : f < 40) (hg : fn f = nI g) (hg2 : g < 96) (hp : b g = nI p) (hr : xp m = nI (r + 1)) (hp9 : p < 100) (hr9 : r < 100) (hk : ∀ q : Int32 → Prop, q 2 → wpX_kindOf q x) (hne : r ≠ p) (K : wpX_raise post (xd, xg, xN, xL, xF, xV, xC, xs, ph, cr, ec, en, ft, bt, pr, op, a, b, xp, fi, xl, nx, xo, fn, fe, vn, vo, vv, xst, xf, xr, xh, xc, fN, fX, fS, fT, fL, pv) 3 (nI m)) : wpX_concludeCall post (xd, xg, xN, xL, xF, xV, xC, xs, ph, cr, ec, en, ft, bt, pr, op, a, b, xp, fi, xl, nx, xo, fn, fe, vn, vo, vv, xst, xf, xr, xh, xc, fN, fX, fS, fT, fL, pv) (nI i) x :=
  x_caK hi hn hm hx hf hg hg2 hp hr hk (br_f (fun z => hne ((nI_eq (by omega) (by omega)).mp z)) K)
theorem x_ca4 {i m f g p r : Nat} {x : Int64} (hi : i < 896) (hn : fN i = nI m) (hm : m < 96) (hx : x.toInt32 = nI f) (hf : f < 40) (hg : fn f = nI g) (hg2 : g < 96) (hp : b g = nI p) (hr : xp m = nI (r + 1)) (hp9 : p < 100) (hr9 : r < 100) (hk : ∀ q : Int32 → Prop, q 2 → wpX_kindOf q x) {s c dd : Nat} (he : r = p) (hs : s < 7) (hc : xc s = nI c) (hc9 : c < 1000) (hd9 : dd < 1000) (h4 : dd ≤ c) (K : wpX_raise post ((nI dd), xg, xN, xL, xF, xV, xC, (nI s), ph, cr, ec, en, ft, bt, pr, op, a, b, xp, fi, xl, nx, xo, fn, fe, vn, vo, vv, xst, xf, xr, xh, xc, fN, fX, fS, fT, fL, pv) 4 (nI m)) : wpX_concludeCall post ((nI dd), xg, xN, xL, xF, xV, xC, (nI s), ph, cr, ec, en, ft, bt, pr, op, a, b, xp, fi, xl, nx, xo, fn, fe, vn, vo, vv, xst, xf, xr, xh, xc, fN, fX, fS, fT, fL, pv) (nI i) x := by
  have e := nc_ (n := s) (by omega)
  refine x_caK hi hn hm hx hf hg hg2 hp hr hk (br_t (by rw [he]) ⟨vi_ hs (by omega), ?_⟩)
  rw [e, hc]
  exact br_f (nI_nlt h4 (by omega)) K
theorem x_ca7 {i m f g p r : Nat} {x : Int64} (hi : i < 896) (hn : fN i = nI m) (hm : m < 96) (hx : x.toInt32 = nI f) (hf : f < 40) (hg : fn f = nI g) (hg2 : g < 96) (hp : b g = nI p) (hr : xp m = nI (r + 1)) (hp9 : p < 100) (hr9 : r < 100) (hk : ∀ q : Int32 → Prop, q 2 → wpX_kindOf q x) {s c dd : Nat} (he : r = p) (hs : s < 7) (hc : xc s = nI c) (hc9 : c < 1000) (hd9 : dd < 1000) {V : Nat} (h4 : c < dd) (hV9 : V < 1000) (h7 : 120 < V + p) (K : wpX_raise post ((nI dd), xg, xN, xL, xF, (nI V), xC, (nI s), ph, cr, ec, en, ft, bt, pr, op, a, b, xp, fi, xl, nx, xo, fn, fe, vn, vo, vv, xst, xf, xr, xh, xc, fN, fX, fS, fT, fL, pv) 7 (nI m)) : wpX_concludeCall post ((nI dd), xg, xN, xL, xF, (nI V), xC, (nI s), ph, cr, ec, en, ft, bt, pr, op, a, b, xp, fi, xl, nx, xo, fn, fe, vn, vo, vv, xst, xf, xr, xh, xc, fN, fX, fS, fT, fL, pv) (nI i) x := by
  have e := nc_ (n := s) (by omega)
  refine x_caK hi hn hm hx hf hg hg2 hp hr hk (br_t (by rw [he]) ⟨vi_ hs (by omega), ?_⟩)
  rw [e, hc]
  exact br_t (nI_lt h4 (by omega)) (br_f (by rw [nI_add]; exact nI_ge (a := 120) h7 (by omega)) K)
theorem x_caE {i m f g p r : Nat} {x : Int64} (hi : i < 896) (hn : fN i = nI m) (hm : m < 96) (hx : x.toInt32 = nI f) (hf : f < 40) (hg : fn f = nI g) (hg2 : g < 96) (hp : b g = nI p) (hr : xp m = nI (r + 1)) (hp9 : p < 100) (hr9 : r < 100) (hk : ∀ q : Int32 → Prop, q 2 → wpX_kindOf q x) {s c dd : Nat} (he : r = p) (hs : s < 7) (hc : xc s = nI c) (hc9 : c < 1000) (hd9 : dd < 1000) {V u : Nat} (h4 : c < dd) (hV9 : V < 1000) (h7 : V + p ≤ 120) (hu : u < 1000) (K : post ((nI dd), (nI u), xN, xL, xF, (nI V), xC, (nI s), 2, cr, ec, en, ft, (nI u), pr, op, a, b, xp, fi, xl, nx, xo, fn, fe, vn, vo, vv, xst, xf, xr, xh, xc, fN, fX, fS, fT, fL, pv)) : wpX_concludeCall post ((nI dd), (nI u), xN, xL, xF, (nI V), xC, (nI s), ph, cr, ec, en, ft, (nI u), pr, op, a, b, xp, fi, xl, nx, xo, fn, fe, vn, vo, vv, xst, xf, xr, xh, xc, fN, fX, fS, fT, fL, pv) (nI i) x := by
  have e := nc_ (n := s) (by omega)
  refine x_caK hi hn hm hx hf hg hg2 hp hr hk (br_t (by rw [he]) ⟨vi_ hs (by omega), ?_⟩)
  rw [e, hc]
  exact br_t (nI_lt h4 (by omega)) (br_t (by rw [nI_add]; exact nI_le (b := 120) h7 (by omega)) (x_beat0 hu (br_t rfl K)))
theorem x_caF {i m f g p r : Nat} {x : Int64} (hi : i < 896) (hn : fN i = nI m) (hm : m < 96) (hx : x.toInt32 = nI f) (hf : f < 40) (hg : fn f = nI g) (hg2 : g < 96) (hp : b g = nI p) (hr : xp m = nI (r + 1)) (hp9 : p < 100) (hr9 : r < 100) (hk : ∀ q : Int32 → Prop, q 2 → wpX_kindOf q x) {s c dd : Nat} (he : r = p) (hs : s < 7) (hc : xc s = nI c) (hc9 : c < 1000) (hd9 : dd < 1000) {V u t h : Nat} (h4 : c < dd) (hV9 : V < 1000) (h7 : V + p ≤ 120) (hu : u < 1000) (ht : t < u) (hh : xh s = nI (h + 1)) (K : wpX_enter post ((nI dd), (nI u), xN, xL, xF, (nI V), xC, (nI s), ph, cr, ec, en, ft, (nI (t + 1)), pr, op, a, b, xp, fi, xl, nx, xo, fn, fe, vn, vo, vv, xst, xf, xr, (upd xh s (nI h)), xc, fN, fX, fS, fT, fL, pv) (nI f) (nI i)) : wpX_concludeCall post ((nI dd), (nI u), xN, xL, xF, (nI V), xC, (nI s), ph, cr, ec, en, ft, (nI t), pr, op, a, b, xp, fi, xl, nx, xo, fn, fe, vn, vo, vv, xst, xf, xr, xh, xc, fN, fX, fS, fT, fL, pv) (nI i) x := by
  have e := nc_ (n := s) (by omega)
  refine x_caK hi hn hm hx hf hg hg2 hp hr hk (br_t (by rw [he]) ⟨vi_ hs (by omega), ?_⟩)
  rw [e, hc]
  exact br_t (nI_lt h4 (by omega)) (br_t (by rw [nI_add]; exact nI_le (b := 120) h7 (by omega)) (x_beat1 ht hu (br_f (by decide) ⟨vi_ hs (by omega), vi_ hs (by omega), nm_r (e' := upd xh s (nI h)) (by rw [e, hh, nI_pred]) K⟩)))
end
section
variable {yd yg yN yi yo yV yF yC ys yft ybt res yer ypl ypr rn hs : Int32} {gv gt : Int64} {op a b pa fi nx yp wn wu gn ge : Nat → Int32} {wv : Nat → Int64} {yl ya ye : Nat → Int32} {yk : Nat → Int64} {yt yc yst yf yr : Nat → Int32} {ou : Nat → Int64}
variable {post : SY → Prop}
theorem y_ca3 {f g p r : Nat} {pp n : Int32} {v z : Int64} (hx : (z - 8589934592).toInt32 = nI f) (hf : f < 40) (hg : gn f = nI g) (hg2 : g < 96) (hp : b g = nI p) (hp9 : p < 100) (hr9 : r < 100) (hk : ∀ q : Int32 → Prop, q 1 → wpY_function q (yd, yg, yN, yi, yo, yV, yF, yC, ys, yft, ybt, res, yer, ypl, ypr, rn, hs, gv, gt, op, a, b, pa, fi, nx, yp, wn, wu, gn, ge, wv, yl, ya, ye, yk, yt, yc, yst, yf, yr, ou) z) (hne : r ≠ p) (K : wpY_raise post (yd, yg, yN, yi, yo, yV, yF, yC, ys, yft, ybt, res, yer, ypl, ypr, rn, hs, gv, gt, op, a, b, pa, fi, nx, yp, wn, wu, gn, ge, wv, yl, ya, ye, yk, yt, yc, yst, yf, yr, ou) 3 n) : wY_call_27 post pp n v (nI r) z yd yg yN yi yo yV yF yC ys yft ybt res yer ypl ypr rn hs gv gt op a b pa fi nx yp wn wu gn ge wv yl ya ye yk yt yc yst yf yr ou :=
  y_caK hx hf hg hg2 hp hk (br_f (fun z => hne ((nI_eq (by omega) (by omega)).mp z).symm) K)
theorem y_ca4 {f g p r : Nat} {pp n : Int32} {v z : Int64} (hx : (z - 8589934592).toInt32 = nI f) (hf : f < 40) (hg : gn f = nI g) (hg2 : g < 96) (hp : b g = nI p) (hp9 : p < 100) (hr9 : r < 100) {s c dd : Nat} (h4 : c = dd) (hk : ∀ q : Int32 → Prop, q 1 → wpY_function q ((nI dd), yg, yN, yi, yo, yV, yF, yC, (nI s), yft, ybt, res, yer, ypl, ypr, rn, hs, gv, gt, op, a, b, pa, fi, nx, yp, wn, wu, gn, ge, wv, yl, ya, ye, yk, yt, yc, yst, yf, yr, ou) z) (he : r = p) (hs7 : s < 7) (hc : yc s = nI c) (hc9 : c < 1000) (hd9 : dd < 1000) (K : wpY_raise post ((nI dd), yg, yN, yi, yo, yV, yF, yC, (nI s), yft, ybt, res, yer, ypl, ypr, rn, hs, gv, gt, op, a, b, pa, fi, nx, yp, wn, wu, gn, ge, wv, yl, ya, ye, yk, yt, yc, yst, yf, yr, ou) 4 n) : wY_call_27 post pp n v (nI r) z (nI dd) yg yN yi yo yV yF yC (nI s) yft ybt res yer ypl ypr rn hs gv gt op a b pa fi nx yp wn wu gn ge wv yl ya ye yk yt yc yst yf yr ou := by
  have e := nc_ (n := s) (by omega)
  refine y_caK hx hf hg hg2 hp hk (br_t (by rw [he]) ⟨vi_ hs7 (by omega), ?_⟩)
  rw [e, hc]
  exact br_t (by rw [h4]) K
theorem y_ca7 {f g p r : Nat} {pp n : Int32} {v z : Int64} (hx : (z - 8589934592).toInt32 = nI f) (hf : f < 40) (hg : gn f = nI g) (hg2 : g < 96) (hp : b g = nI p) (hp9 : p < 100) (hr9 : r < 100) {s c dd : Nat} {V : Nat} (h4 : c < dd) (hV9 : V < 1000) (h7 : 120 < V + p) (hk : ∀ q : Int32 → Prop, q 1 → wpY_function q ((nI dd), yg, yN, yi, yo, (nI V), yF, yC, (nI s), yft, ybt, res, yer, ypl, ypr, rn, hs, gv, gt, op, a, b, pa, fi, nx, yp, wn, wu, gn, ge, wv, yl, ya, ye, yk, yt, yc, yst, yf, yr, ou) z) (he : r = p) (hs7 : s < 7) (hc : yc s = nI c) (hc9 : c < 1000) (hd9 : dd < 1000) (K : wpY_raise post ((nI dd), yg, yN, yi, yo, (nI V), yF, yC, (nI s), yft, ybt, res, yer, ypl, ypr, rn, hs, gv, gt, op, a, b, pa, fi, nx, yp, wn, wu, gn, ge, wv, yl, ya, ye, yk, yt, yc, yst, yf, yr, ou) 7 n) : wY_call_27 post pp n v (nI r) z (nI dd) yg yN yi yo (nI V) yF yC (nI s) yft ybt res yer ypl ypr rn hs gv gt op a b pa fi nx yp wn wu gn ge wv yl ya ye yk yt yc yst yf yr ou := by
  have e := nc_ (n := s) (by omega)
  refine y_caK hx hf hg hg2 hp hk (br_t (by rw [he]) ⟨vi_ hs7 (by omega), ?_⟩)
  rw [e, hc]
  exact br_f (fun z => by have := (nI_eq (by omega) (by omega)).mp z; omega) (br_f (by rw [nI_add]; exact nI_ge (a := 120) h7 (by omega)) K)
theorem y_caE {f g p r : Nat} {pp n : Int32} {v z : Int64} (hx : (z - 8589934592).toInt32 = nI f) (hf : f < 40) (hg : gn f = nI g) (hg2 : g < 96) (hp : b g = nI p) (hp9 : p < 100) (hr9 : r < 100) {s c dd : Nat} {V u : Nat} (h4 : c < dd) (hV9 : V < 1000) (h7 : V + p ≤ 120) (hk : ∀ q : Int32 → Prop, q 1 → wpY_function q ((nI dd), (nI u), yN, yi, yo, (nI V), yF, yC, (nI s), yft, (nI u), res, yer, ypl, ypr, rn, hs, gv, gt, op, a, b, pa, fi, nx, yp, wn, wu, gn, ge, wv, yl, ya, ye, yk, yt, yc, yst, yf, yr, ou) z) (he : r = p) (hs7 : s < 7) (hc : yc s = nI c) (hc9 : c < 1000) (hd9 : dd < 1000) (K : post ((nI dd), (nI u), yN, yi, yo, (nI V), yF, yC, (nI s), yft, (nI u), 2, yer, ypl, ypr, 0, hs, 4294967296, gt, op, a, b, pa, fi, nx, yp, wn, wu, gn, ge, wv, yl, ya, ye, yk, yt, yc, yst, yf, yr, ou)) : wY_call_27 post pp n v (nI r) z (nI dd) (nI u) yN yi yo (nI V) yF yC (nI s) yft (nI u) res yer ypl ypr rn hs gv gt op a b pa fi nx yp wn wu gn ge wv yl ya ye yk yt yc yst yf yr ou := by
  have e := nc_ (n := s) (by omega)
  refine y_caK hx hf hg hg2 hp hk (br_t (by rw [he]) ⟨vi_ hs7 (by omega), ?_⟩)
  rw [e, hc]
  exact br_f (fun z => by have := (nI_eq (by omega) (by omega)).mp z; omega) (br_t (by rw [nI_add]; exact nI_le (b := 120) h7 (by omega)) (y_beat0 (br_t rfl K)))
theorem y_caF {f g p r : Nat} {pp n : Int32} {v z : Int64} (hx : (z - 8589934592).toInt32 = nI f) (hf : f < 40) (hg : gn f = nI g) (hg2 : g < 96) (hp : b g = nI p) (hp9 : p < 100) (hr9 : r < 100) {s c dd : Nat} {V u t : Nat} {en : Int32} (h4 : c < dd) (hV9 : V < 1000) (h7 : V + p ≤ 120) (hu : u < 1000) (ht : t < u) (hge : ge f = en) (hk : ∀ q : Int32 → Prop, q 1 → wpY_function q ((nI dd), (nI u), yN, yi, yo, (nI V), yF, yC, (nI s), yft, (nI t), res, yer, ypl, ypr, rn, hs, gv, gt, op, a, b, pa, fi, nx, yp, wn, wu, gn, ge, wv, yl, ya, ye, yk, yt, yc, yst, yf, yr, ou) z) (he : r = p) (hs7 : s < 7) (hc : yc s = nI c) (hc9 : c < 1000) (hd9 : dd < 1000) (K : ∃ k, wY_call_155 post pp v (nI r) (nI g) k en 0 (nI dd) (nI u) yN yi yo (nI V) yF yC (nI s) yft (nI (t + 1)) res yer ypl ypr rn hs gv gt op a b pa fi nx yp wn wu gn ge wv yl ya ye yk yt yc yst yf yr ou) : wY_call_27 post pp n v (nI r) z (nI dd) (nI u) yN yi yo (nI V) yF yC (nI s) yft (nI t) res yer ypl ypr rn hs gv gt op a b pa fi nx yp wn wu gn ge wv yl ya ye yk yt yc yst yf yr ou := by
  have e := nc_ (n := s) (by omega)
  refine y_caK hx hf hg hg2 hp hk (br_t (by rw [he]) ⟨vi_ hs7 (by omega), ?_⟩)
  rw [e, hc]
  exact br_f (fun z => by have := (nI_eq (by omega) (by omega)).mp z; omega) (br_t (by rw [nI_add]; exact nI_le (b := 120) h7 (by omega)) (y_beat1 ht hu (br_f (by decide) ⟨vi_ hf (by omega), nm_r hge K⟩)))
end
section
variable {op a b fi nx pa : Nat → Int32} {N : Nat} {oc pc E lv : Nat → Nat} {kd : Nat → Nat → Nat} {SC : Nat → Int32 → Prop}
variable {F C V : Nat} {D : Nat → Int32 → Prop} {K T : Nat → Nat → Nat} {fN fX fS fT : Nat → Int32} {fL : Nat → Int64} {yl ya ye : Nat → Int32} {yk : Nat → Int64} {P H : Nat → Nat} {dep : Nat} {xh xc yt yc fn fe gn ge vn vo : Nat → Int32} {vv : Nat → Int64} {wn wu : Nat → Int32} {wv : Nat → Int64} {xst xf xr yst yf yr : Nat → Int32} {Q : Nat → Nat} {k s h : Nat}
variable {fu : Nat} {xN xL : Int32} {xp xl xo : Nat → Int32} {yN yi yo : Int32} {yp : Nat → Int32}
variable {ph ec en ft : Int32} {cr gv gt : Int64} {q w φ : Nat} {pv ou : Nat → Int64} {hs : Int32}
theorem sA_call {n i e : Nat} (ht : (ct_all op a b fi nx pa N oc pc E lv kd SC)) (hyp : ∀ n, n < N → xp n = nI (pc n) ∧ yp n = nI (pc n)) (h1 : (cc_C N oc pc E lv kd a b SC F C V D K T fN fX fS fT fL yl ya ye yk P H dep xh xc yt yc fn fe gn ge vn vo vv wn wu wv xst xf xr yst yf yr Q k s h)) (g1 : n < N) (g2 : oc n < 19) (g3 : i < pc n) (g4 : e ≤ V) (g5 : fN (s * 128 + h) = nI n) (g6 : fT (s * 128 + h) = nI (ct_tk (oc n) i)) (g7 : fS (s * 128 + h) = nI e) (g8 : yl (112 * s + (h + K s (h + 1) - cz_ s)) = nI n) (g9 : ya (112 * s + (h + K s (h + 1) - cz_ s)) = nI i) (g10 : ye (112 * s + (h + K s (h + 1) - cz_ s)) = nI e - 1) (g11 : ∀ c, ct_in oc a b SC n i c → D e c) (g12 : cf_S F C (oc n) i (fun q => fL ((s * 128 + h) * 4 + q)) (fun q => yk (3 * (112 * s + (h + K s (h + 1) - cz_ s)) + q))) (g13 : K s (h + 1) = K s h + (if oc n = 10 then 1 else 0)) (g14 : cz_ s ≤ K s (h + 1)) (g15 : h + 1 + K s (h + 1) ≤ 16 * K s (h + 1) + lv n + cz_ s) (hn : fX (s * 128 + h) = ct_nx pc kd n (i + 1)) (hT : T s h + 4 * (E n - E (kd n i)) + 3 ≤ T s (h + 1)) (b1 : K s (h + 1) ≤ dep) (b2 : T s (h + 1) + 2 ≤ P s) (b3 : xh s = nI (h + 1)) (b4 : yt s = nI (h + 1 + K s (h + 1) - cz_ s)) (b5 : xc s = nI (K s (h + 1))) (b6 : yc s = nI (K s (h + 1))) (hk : (cr_K φ fu q w F C P pv ou)) (hv : cv_R F C cr gt) (hd : oc n = 11) (hlt : i + 1 = pc n) : ∃ u2 v2 kx, xs_ (kx + 1) ((nI dep), (nI fu), xN, xL, (nI F), (nI V), (nI C), (nI s), (-2), cr, ec, en, ft, (nI q), (nI w), op, a, b, xp, fi, xl, nx, xo, fn, fe, vn, vo, vv, xst, xf, xr, xh, xc, fN, fX, fS, fT, fL, pv) u2 ∧ (∀ post : SY → Prop, post v2 → wpY_deliver post ((nI dep), (nI fu), yN, yi, yo, (nI V), (nI F), (nI C), (nI s), ft, (nI q), 0, 0, (-1), (nI w), 1, 0, gv, gt, op, a, b, pa, fi, nx, yp, wn, wu, gn, ge, wv, yl, ya, ye, yk, yt, yc, yst, yf, yr, ou) gt) ∧ cr_T op a b fi nx pa N oc pc E lv kd SC dep fu xN xL xp xl xo yN yi yo yp φ (kx + 1) u2 v2 := by
  have h7 := (cc_s h1).2
  have h6 := cc_dep h1
  have hKK : K s h ≤ K s (h + 1) := by omega
  have hh := cf_h ht (cc_FR h1) (by omega)
  have hN := ht.2.1
  have hl := (ht.2.2.2.2 n g1).2.2.2.1.2 (by omega)
  have hzl := cz_le s
  have hw : h + K s (h + 1) - cz_ s < 112 := by omega
  have o_ : op n = nI (oc n) := ct_op ht g1 rfl
  have b4' : yt s = nI (h + K s (h + 1) - cz_ s + 1) := by rw [b4]; exact congrArg nI (by omega)
  have hpn := (ht.2.2.2.2 n g1).1.2.2.2
  have yp_ := (hyp n g1).2
  have hEn := ct_E ht g1
  have hkd := (ht.2.2.2.2 n g1).2.2.2.2.2.1
  have h10 : oc n ≠ 10 := by omega
  have hK0 : K s (h + 1) = K s h := by rw [g13, if_neg h10]; rfl
  have b4p : yt s = nI (h + K s h - cz_ s + 1) := by rw [← hK0]; exact b4'
  have g8p : yl (112 * s + (h + K s h - cz_ s)) = nI n := by rw [← hK0]; exact g8
  have b1p : K s h ≤ dep := by omega
  have b5p : xc s = nI (K s h) := by rw [← hK0]; exact b5
  have b6p : yc s = nI (K s h) := by rw [← hK0]; exact b6
  have hwp : h + K s h - cz_ s < 112 := by omega
  have hsh : 1 ≤ s → 1 ≤ h := fun hs1 => by
    have z1 := cz_1 hs1
    rcases Nat.eq_zero_or_pos h with hz | hz
    · subst hz
      have := h1.2.1 s
      omega
    · exact hz
  have hD11 : oc n < 5 ∨ 10 < oc n ∨ oc n = 9 := Or.inr (Or.inl (by omega))
  have hmx : pc n ≤ 4 := by have := (ct_mn' ht g1).2; rw [hd] at this; exact this
  have o11 : op n = 11 := o_.trans (by rw [hd]; rfl)
  have hF4 := h1.1.1
  have hC6 := h1.1.2.1
  have hV2 := h1.1.2.2.1
  have hfu := hk.1.2.1
  have h2 := cc_tk (n := n) (i := i) (x := cr) ht h1 b1p (by omega)
  have hxp : xp n = nI (i + 1) := by rw [(hyp n g1).1, hlt]
  have hyp' : yp n = nI (i + 1) := by rw [yp_, hlt]
  obtain ⟨z, z1, z2, hcv⟩ : ∃ z : Int64, (i = 0 → z = gt) ∧ (i ≠ 0 → z = yk (3 * (112 * s + (h + K s (h + 1) - cz_ s)))) ∧ cv_R F C (vp_updL fL ((s * 128 + h) * 4 + i) cr ((s * 128 + h) * 4)) z := by
    by_cases h0 : i = 0
    · subst h0
      refine ⟨gt, fun _ => rfl, fun h => absurd rfl h, ?_⟩
      rw [show vp_updL fL ((s * 128 + h) * 4 + 0) cr ((s * 128 + h) * 4) = cr from pk_uLs]
      exact hv
    · refine ⟨yk (3 * (112 * s + (h + K s (h + 1) - cz_ s))), fun h => absurd h h0, fun _ => rfl, ?_⟩
      rw [pk_uLn (by omega)]
      exact g12.2 (by omega) 0 (by omega) (by omega)
  rcases xy_fun hF4 hC6 hcv with ⟨f, c1, c2, c3, c4, c5⟩ | ⟨⟨kk, c1, c2⟩, c3⟩
  · obtain ⟨g, e', f1, f2, f3, f4, f5, f6, f7, f8⟩ := h1.2.2.2.1 f c1
    obtain ⟨p0, q0, p1, p2, p3, p4⟩ := (ht.2.2.2.2 g f1).2.1 f2
    have xi : (vp_updL fL ((s * 128 + h) * 4 + i) cr ((s * 128 + h) * 4)).toInt32 = nI f := by rw [c2, vo_i2]
    have yi' : (z - 8589934592).toInt32 = nI f := by rw [c3, vo_y2]
    by_cases hq : i = q0
    · by_cases hdep : dep ≤ K s h
      · exact sA_raise ht hyp h1 g1 g2 g3 g4 g5 g6 g7 g8 g9 g10 g11 g12 g13 g14 g15 hn hT b1 b2 b3 b4 b5 b6 hk hv hD11 hlt 4 (fun post KK => x_c11 h7 (by omega) g5 (by omega) o11 (x_ca4 (by omega) g5 (by omega) xi (by omega) f4 (by omega) p2 hxp (by omega) (by omega) c4 hq h7 b5p (by omega) (by omega) hdep KK)) (fun post KK => y_a11 h7 hw (by omega) o11 (y_call h7 hw (by omega) hyp' (by omega) z1 z2 (y_ca4 yi' (by omega) f5 (by omega) p2 (by omega) (by omega) (by omega) (fun q hq => c5 q _ hq) hq h7 b6p (by omega) (by omega) KK)))
      · by_cases hV7 : V + q0 ≤ 120
        · rcases Nat.lt_or_ge q fu with hqf | hqf
          · have hval : ∀ t, t < q0 → cv_R F C (vp_updL fL ((s * 128 + h) * 4 + i) cr ((s * 128 + h) * 4 + 1 + t)) (if t + 1 = q0 then gt else yk (3 * (112 * s + (h + K s (h + 1) - cz_ s)) + t + 1)) := by
              intro t htq
              by_cases h3 : t + 1 = q0
              · rw [if_pos h3, show (s * 128 + h) * 4 + 1 + t = (s * 128 + h) * 4 + i by omega, pk_uLs]; exact hv
              · rw [if_neg h3, pk_uLn (by omega)]
                have := g12.2 (by omega) (t + 1) (by omega) (by omega)
                dsimp only at this
                rw [show (s * 128 + h) * 4 + (t + 1) = (s * 128 + h) * 4 + 1 + t by omega] at this
                exact this
            have h3 : (cc_C N oc pc E lv kd a b SC F C V D K T fN fX fS (upd fT (s * 128 + h) (nI (i + 1))) (vp_updL fL ((s * 128 + h) * 4 + i) cr) yl ya ye yk P H dep (upd xh s (nI h)) xc yt yc fn fe gn ge vn vo vv wn wu wv xst xf xr yst yf yr Q k s h) := cc_fr ht h2 (by omega) (by omega) (fun _ _ _ => rfl) (fun _ _ _ => rfl) ca_r ca_r ca_r ca_r ca_r ca_r ca_r ca_r ca_r ca_r (ca_u ca_r (by omega) (by omega)) ca_r ca_r ca_r
            obtain ⟨V', D', vn', vo', vv', wn', wu', wv', e2, k1, k2, k3, k4, k5, k6⟩ := call_vars (m := g) (q0 := q0) (I0 := (s * 128 + h)) (J0 := (112 * s + (h + K s (h + 1) - cz_ s))) (ph := -1) (hs := 0) (q := q + 1) (w := w) (fu := fu) (ec := ec) (en := en) (ft := ft) (cr := cr) (gv := gv) (gt := gt) (xN := xN) (xL := xL) (xp := xp) (xl := xl) (xo := xo) (yN := yN) (yi := yi) (yo := yo) (yp := yp) (pv := pv) (ou := ou) ht b1p f1 p2 p3 (by omega) (by omega) hval q0 0 (by omega) V D vn vo vv wn wu wv e' h3 hV7 f3 f8 (fun r hr => by omega)
            have xE : ∀ post : SX → Prop, wX_enter_71 post (nI g) (nI e2) (nI dep) (nI fu) xN xL (nI F) (nI V') (nI C) (nI s) (-1) cr ec en ft (nI (q + 1)) (nI w) op a b xp fi xl nx xo fn fe vn' vo' vv' xst xf xr (upd xh s (nI h)) xc fN fX fS (upd fT (s * 128 + h) (nI (i + 1))) (vp_updL fL ((s * 128 + h) * 4 + i) cr) pv → wpX_conclude post ((nI dep), (nI fu), xN, xL, (nI F), (nI V), (nI C), (nI s), (-1), cr, ec, en, ft, (nI q), (nI w), op, a, b, xp, fi, xl, nx, xo, fn, fe, vn, vo, vv, xst, xf, xr, xh, xc, fN, fX, fS, (upd fT (s * 128 + h) (nI (i + 1))), (vp_updL fL ((s * 128 + h) * 4 + i) cr), pv) (nI (s * 128 + h)) := fun post KK => x_c11 h7 (by omega) g5 (by omega) o11 (x_caF (by omega) g5 (by omega) xi (by omega) f4 (by omega) p2 hxp (by omega) (by omega) c4 hq h7 b5p (by omega) (by omega) (by omega) (by omega) hV7 (by omega) hqf b3 (x_enter (by omega) f4 f6 ⟨0 + q0 + 1, k5 post 0 KK⟩))
            have yE : ∀ post : SY → Prop, wpY_begin post ((nI dep), (nI fu), yN, yi, yo, (nI V'), (nI F), (nI C), (nI s), ft, (nI (q + 1)), 0, 0, (-1), (nI w), 1, 0, gv, gt, op, a, b, pa, fi, nx, yp, wn', wu', gn, ge, wv', yl, ya, ye, yk, yt, yc, yst, yf, yr, ou) (nI g) (nI e2 - 1) → wpY_apply post ((nI dep), (nI fu), yN, yi, yo, (nI V), (nI F), (nI C), (nI s), ft, (nI q), 0, 0, (-1), (nI w), 1, 0, gv, gt, op, a, b, pa, fi, nx, yp, wn, wu, gn, ge, wv, yl, ya, ye, yk, yt, yc, yst, yf, yr, ou) (nI (112 * s + (h + K s (h + 1) - cz_ s))) (nI n) gt := fun post KK => y_a11 h7 hw (by omega) o11 (y_call h7 hw (by omega) hyp' (by omega) z1 z2 (y_caF yi' (by omega) f5 (by omega) p2 (by omega) (by omega) (by omega) (by omega) hV7 (by omega) hqf f7 (fun q hq => c5 q _ hq) hq h7 b6p (by omega) (by omega) ⟨0 + q0 + 1, by rw [hq]; exact k6 post 0 KK⟩))
            have hEg := ct_E ht f1
            rcases Nat.eq_zero_or_pos (pc g) with hpg | hpg
            · have hfg : fi g = -1 := (ht.2.2.2.2 g f1).2.2.2.2.1.1 hpg
              have og : op g = 10 := ct_op ht f1 f2
              obtain ⟨φ', hφ, hk'⟩ := cr_beat (P' := ch_ P s (T s h + 2)) (d := 3) hk h7 hqf rfl (by omega)
              have h4 : (cc_C N oc pc E lv kd a b SC F C V' D' K T (upd fN (s * 128 + h) (nI g)) (upd fX (s * 128 + h) (fi g)) (upd fS (s * 128 + h) (nI e2)) (upd (upd fT (s * 128 + h) (nI (i + 1))) (s * 128 + h) 0) (vp_updL (vp_updL fL ((s * 128 + h) * 4 + i) cr) ((s * 128 + h) * 4) 0) yl ya ye yk (ch_ P s (T s h + 2)) H dep (upd (upd xh s (nI h)) s (nI (h + 1))) (upd (upd xc s (nI (K s h + 1))) s (nI (K s h))) yt (upd (upd yc s (nI (K s h + 1))) s (nI (K s h))) fn fe gn ge vn' vo' vv' wn' wu' wv' xst xf xr yst yf yr Q k s h) := cc_fr ht k1 (by omega) (by omega) (fun _ _ _ => rfl) (fun _ _ _ => rfl) (ca_u ca_r (by omega) (by omega)) (ca_u ca_r (by omega) (by omega)) (ca_u ca_r (by omega) (by omega)) (ca_u ca_r (by omega) (by omega)) (ca_l ca_r (by omega) (by omega)) ca_r ca_r ca_r ca_r ca_c (ca_u ca_r (by omega) (by omega)) (ca_u (ca_u ca_r (by omega) (by omega)) (by omega) (by omega)) ca_r (ca_u (ca_u ca_r (by omega) (by omega)) (by omega) (by omega))
              refine sA_ap ht hyp h1 g1 g2 g3 g4 g5 g6 g7 g8 g9 g10 g11 g12 g13 g14 g15 hn hT b1 b2 b3 b4 b5 b6 hk hv hD11 hlt (fun post KK => xE post (x_e71 h7 pk_us (by omega) (by omega) og b5p KK)) (xs_a (fun post KK => x_adv1 h7 pk_us (by omega) (pk_us.trans hfg) (x_c10 h7 (by omega) pk_us (by omega) og pk_us (x_finish h7 pk_us KK)))) (fun post KK => yE post (y_begin0 h7 (by omega) b6p (by rw [(hyp g f1).2, hpg]) (y_ret1 h7 pk_us b4p (by omega) KK))) ?_
              rw [pk_uLs]
              obtain ⟨φ3, r1, r2⟩ := cr_pop (d := 0) (φ := φ') (ec := ec) (en := en) (ft := ft) (gv := gv) (xN := xN) (xL := xL) (xp := xp) (xl := xl) (xo := xo) (yN := yN) (yi := yi) (yo := yo) (yp := yp) ht h4 b1p pk_us pk_us hsh hk' (by rw [ch_s]; omega) cv_nil
              exact ⟨φ3, by omega, r2⟩
            · have kd0 := (ht.2.2.2.2 g f1).2.2.2.2.2.1 0 hpg
              have hlg := (ht.2.2.2.2 g f1).2.2.2.1.1
              have hzK := cf_z ht (cc_FR h1) (by omega) hsh
              obtain ⟨φ', hφ, hk'⟩ := cr_beat (P' := ch_ P s (T s h + 4 * (E g - kd g 0) + 3)) (d := 2) hk h7 hqf rfl (by omega)
              obtain ⟨u2, v2, r1, r2, r3⟩ := enter_1 (m := g) (e := e2) (q0 := q0) (d := 2) (φ := φ) (φ' := φ') (q := q + 1) (ec := ec) (en := en) (ft := ft) (cr := cr) (gv := gv) (gt := gt) (xN := xN) (xL := xL) (xp := xp) (xl := xl) (xo := xo) (yN := yN) (yi := yi) (yo := yo) (yp := yp) ht hyp k1 (by omega) (by omega) f1 f2 p2 p3 k2 k3 k4 (by omega) pk_us (by rw [b4p]; exact congrArg nI (by omega)) b5p b6p hpg hφ hk'
              exact sA_ap ht hyp h1 g1 g2 g3 g4 g5 g6 g7 g8 g9 g10 g11 g12 g13 g14 g15 hn hT b1 b2 b3 b4 b5 b6 hk hv hD11 hlt (fun post KK => xE post (r1 post KK)) (xs_0 _) (fun post KK => yE post (r2 post KK)) r3
          · obtain rfl : q = fu := by have := hk.1.1; omega
            have hφ2 : P s ≤ φ := by have h3 := sm_le (f := P) 7 h7; have h4 := hk.1.2.2.1; omega
            exact sA_ap ht hyp h1 g1 g2 g3 g4 g5 g6 g7 g8 g9 g10 g11 g12 g13 g14 g15 hn hT b1 b2 b3 b4 b5 b6 hk hv hD11 hlt (fun post KK => x_c11 h7 (by omega) g5 (by omega) o11 (x_caE (by omega) g5 (by omega) xi (by omega) f4 (by omega) p2 hxp (by omega) (by omega) c4 hq h7 b5p (by omega) (by omega) (by omega) (by omega) hV7 (by omega) KK)) (xs_0 _) (fun post KK => y_a11 h7 hw (by omega) o11 (y_call h7 hw (by omega) hyp' (by omega) z1 z2 (y_caE yi' (by omega) f5 (by omega) p2 (by omega) (by omega) (by omega) (by omega) hV7 (fun q hq => c5 q _ hq) hq h7 b6p (by omega) (by omega) KK))) (cr_fuel h1.1.1 h1.1.2.1 hk (by omega))
        · exact sA_raise ht hyp h1 g1 g2 g3 g4 g5 g6 g7 g8 g9 g10 g11 g12 g13 g14 g15 hn hT b1 b2 b3 b4 b5 b6 hk hv hD11 hlt 7 (fun post KK => x_c11 h7 (by omega) g5 (by omega) o11 (x_ca7 (by omega) g5 (by omega) xi (by omega) f4 (by omega) p2 hxp (by omega) (by omega) c4 hq h7 b5p (by omega) (by omega) (by omega) (by omega) (by omega) KK)) (fun post KK => y_a11 h7 hw (by omega) o11 (y_call h7 hw (by omega) hyp' (by omega) z1 z2 (y_ca7 yi' (by omega) f5 (by omega) p2 (by omega) (by omega) (by omega) (by omega) (by omega) (fun q hq => c5 q _ hq) hq h7 b6p (by omega) (by omega) KK)))
    · exact sA_raise ht hyp h1 g1 g2 g3 g4 g5 g6 g7 g8 g9 g10 g11 g12 g13 g14 g15 hn hT b1 b2 b3 b4 b5 b6 hk hv hD11 hlt 3 (fun post KK => x_c11 h7 (by omega) g5 (by omega) o11 (x_ca3 (by omega) g5 (by omega) xi (by omega) f4 (by omega) p2 hxp (by omega) (by omega) c4 hq KK)) (fun post KK => y_a11 h7 hw (by omega) o11 (y_call h7 hw (by omega) hyp' (by omega) z1 z2 (y_ca3 yi' (by omega) f5 (by omega) p2 (by omega) (by omega) (fun q hq => c5 q _ hq) hq KK)))
  · exact sA_raise ht hyp h1 g1 g2 g3 g4 g5 g6 g7 g8 g9 g10 g11 g12 g13 g14 g15 hn hT b1 b2 b3 b4 b5 b6 hk hv hD11 hlt 2 (fun post KK => x_c11 h7 (by omega) g5 (by omega) o11 (x_caA (by omega) g5 c1 c2 KK)) (fun post KK => y_a11 h7 hw (by omega) o11 (y_call h7 hw (by omega) hyp' (by omega) z1 z2 (y_caA (fun q hq => c3 q _ hq) KK)))
end
end
section
section
variable {xd xg xN xL xF xV xC xs ph : Int32} {cr : Int64} {ec en ft bt pr : Int32} {op a b xp fi xl nx xo fn fe vn vo : Nat → Int32} {vv : Nat → Int64} {xst xf xr xh xc fN fX fS fT : Nat → Int32} {fL pv : Nat → Int64}
variable {post : SX → Prop}
theorem x_rsA {i m : Nat} {x : Int64} {k : Int32} (hi : i < 896) (hn : fN i = nI m) (hk : k ≠ 3) (hf : ∀ q : Int32 → Prop, q k → wpX_kindOf q x) (K : wpX_raise post (xd, xg, xN, xL, xF, xV, xC, xs, ph, cr, ec, en, ft, bt, pr, op, a, b, xp, fi, xl, nx, xo, fn, fe, vn, vo, vv, xst, xf, xr, xh, xc, fN, fX, fS, fT, fL, pv) 2 (nI m)) : wpX_concludeResume post (xd, xg, xN, xL, xF, xV, xC, xs, ph, cr, ec, en, ft, bt, pr, op, a, b, xp, fi, xl, nx, xo, fn, fe, vn, vo, vv, xst, xf, xr, xh, xc, fN, fX, fS, fT, fL, pv) (nI i) x := by
  have ei := nc_ (n := i) (by omega)
  exact ⟨vi_ hi (by omega), nm_r (e' := nI m) (by rw [ei, hn]) (hf _ (br_f hk K))⟩
theorem x_rs5 {i m t w : Nat} {x : Int64} (hi : i < 896) (hn : fN i = nI m) (hx : x.toInt32 = nI t) (ht : t < 7) (hw : xst t = nI w) (hw0 : w ≠ 0) (hw9 : w < 100) (hf : ∀ q : Int32 → Prop, q 3 → wpX_kindOf q x) (K : wpX_raise post (xd, xg, xN, xL, xF, xV, xC, xs, ph, cr, ec, en, ft, bt, pr, op, a, b, xp, fi, xl, nx, xo, fn, fe, vn, vo, vv, xst, xf, xr, xh, xc, fN, fX, fS, fT, fL, pv) 5 (nI m)) : wpX_concludeResume post (xd, xg, xN, xL, xF, xV, xC, xs, ph, cr, ec, en, ft, bt, pr, op, a, b, xp, fi, xl, nx, xo, fn, fe, vn, vo, vv, xst, xf, xr, xh, xc, fN, fX, fS, fT, fL, pv) (nI i) x := by
  have ei := nc_ (n := i) (by omega)
  have et := nc_ (n := t) (by omega)
  refine ⟨vi_ hi (by omega), nm_r (e' := nI m) (by rw [ei, hn]) (hf _ (br_t rfl ?_))⟩
  rw [hx, et, hw]
  exact ⟨vi_ ht (by omega), br_f (nI_ne0 (by omega) (by omega)) K⟩
theorem x_rs70 {i m t f : Nat} {x : Int64} {z : Int32} (hi : i < 896) (hn : fN i = nI m) (hx : x.toInt32 = nI t) (ht : t < 7) (hw : xst t = 0) (hf0 : xf t = nI f) (hz : (xh t = 0 ∧ z = 1) ∨ (¬ xh t = 0 ∧ z = 0)) (hf : ∀ q : Int32 → Prop, q 3 → wpX_kindOf q x) (K : wX_concludeResume_70 post (nI i) (nI m) (nI t) (nI f) z xd xg xN xL xF xV xC xs ph cr ec en ft bt pr op a b xp fi xl nx xo fn fe vn vo vv xst xf xr xh xc fN fX fS fT fL pv) : wpX_concludeResume post (xd, xg, xN, xL, xF, xV, xC, xs, ph, cr, ec, en, ft, bt, pr, op, a, b, xp, fi, xl, nx, xo, fn, fe, vn, vo, vv, xst, xf, xr, xh, xc, fN, fX, fS, fT, fL, pv) (nI i) x := by
  have ei := nc_ (n := i) (by omega)
  have et := nc_ (n := t) (by omega)
  have w := vi_ (n := t) (N := 7) ht (by omega)
  refine ⟨vi_ hi (by omega), nm_r (e' := nI m) (by rw [ei, hn]) (hf _ (br_t rfl ?_))⟩
  rw [hx, et, hw]
  refine ⟨w, br_t rfl ⟨w, nm_r (e' := nI f) (by rw [hf0]) ⟨w, ?_⟩⟩⟩
  rcases hz with ⟨h1, h2⟩ | ⟨h1, h2⟩
  · rw [h2] at K; exact br_t h1 K
  · rw [h2] at K; exact br_f h1 K
theorem x_rs7 {i m t f g p V : Nat} (hf : f < 40) (hg : fn f = nI g) (hg2 : g < 96) (hp : b g = nI p) (hp9 : p < 100) (hV9 : V < 1000) (hV : 120 < V + p) (K : wpX_raise post (xd, xg, xN, xL, xF, (nI V), xC, xs, ph, cr, ec, en, ft, bt, pr, op, a, b, xp, fi, xl, nx, xo, fn, fe, vn, vo, vv, xst, xf, xr, xh, xc, fN, fX, fS, fT, fL, pv) 7 (nI m)) : wX_concludeResume_70 post (nI i) (nI m) (nI t) (nI f) 1 xd xg xN xL xF (nI V) xC xs ph cr ec en ft bt pr op a b xp fi xl nx xo fn fe vn vo vv xst xf xr xh xc fN fX fS fT fL pv := by
  have ef := nc_ (n := f) (by omega)
  have eg := nc_ (n := g) (by omega)
  refine br_f (by decide) ?_
  rw [ef, hg, eg, hp]
  exact ⟨vi_ hf (by omega), vi_ hg2 (by omega), br_f (by rw [nI_add]; exact nI_ge (a := 120) hV (by omega)) K⟩
theorem x_rs1 {i m t f g p V : Nat} (hf : f < 40) (hg : fn f = nI g) (hg2 : g < 96) (hp : b g = nI p) (hp9 : p < 100) (hV : V + p ≤ 120) (K : wX_concludeResume_108 post (nI i) (nI t) (nI f) 1 xd xg xN xL xF (nI V) xC xs ph cr ec en ft bt pr op a b xp fi xl nx xo fn fe vn vo vv xst xf xr xh xc fN fX fS fT fL pv) : wX_concludeResume_70 post (nI i) (nI m) (nI t) (nI f) 1 xd xg xN xL xF (nI V) xC xs ph cr ec en ft bt pr op a b xp fi xl nx xo fn fe vn vo vv xst xf xr xh xc fN fX fS fT fL pv := by
  have ef := nc_ (n := f) (by omega)
  have eg := nc_ (n := g) (by omega)
  refine br_f (by decide) ?_
  rw [ef, hg, eg, hp]
  exact ⟨vi_ hf (by omega), vi_ hg2 (by omega), br_t (by rw [nI_add]; exact nI_le (b := 120) hV (by omega)) K⟩
theorem x_rs0 {i m t f : Nat} (K : wX_concludeResume_108 post (nI i) (nI t) (nI f) 0 xd xg xN xL xF xV xC xs ph cr ec en ft bt pr op a b xp fi xl nx xo fn fe vn vo vv xst xf xr xh xc fN fX fS fT fL pv) : wX_concludeResume_70 post (nI i) (nI m) (nI t) (nI f) 0 xd xg xN xL xF xV xC xs ph cr ec en ft bt pr op a b xp fi xl nx xo fn fe vn vo vv xst xf xr xh xc fN fX fS fT fL pv := br_t rfl K
theorem x_rsE {i t f z : Int32} {u : Nat} (hu : u < 1000) (K : post (xd, (nI u), xN, xL, xF, xV, xC, xs, 2, cr, ec, en, ft, (nI u), pr, op, a, b, xp, fi, xl, nx, xo, fn, fe, vn, vo, vv, xst, xf, xr, xh, xc, fN, fX, fS, fT, fL, pv)) : wX_concludeResume_108 post i t f z xd (nI u) xN xL xF xV xC xs ph cr ec en ft (nI u) pr op a b xp fi xl nx xo fn fe vn vo vv xst xf xr xh xc fN fX fS fT fL pv := by
  unfold wX_concludeResume_108
  refine x_beat0 hu ?_
  exact br_t rfl K
theorem x_rsF {i t j q u : Nat} {f : Int32} {s : Nat} (hi : i < 896) (ht : t < 7) (hu : u < 1000) (hq : q < u) (hh : xh t = nI (j + 1)) (K : post (xd, (nI u), xN, xL, xF, xV, xC, (nI t), (-2), (fL (i * 4 + 1)), ec, en, ft, (nI (q + 1)), pr, op, a, b, xp, fi, xl, nx, xo, fn, fe, vn, vo, vv, (upd xst t 1), xf, (upd xr t (nI s)), (upd xh t (nI j)), xc, fN, fX, fS, fT, fL, pv)) : wX_concludeResume_108 post (nI i) (nI t) f 0 xd (nI u) xN xL xF xV xC (nI s) ph cr ec en ft (nI q) pr op a b xp fi xl nx xo fn fe vn vo vv xst xf xr xh xc fN fX fS fT fL pv := by
  have et := nc_ (n := t) (by omega)
  have e5 := nc_ (n := i * 4 + 1) (by omega)
  have w := vi_ (n := t) (N := 7) ht (by omega)
  unfold wX_concludeResume_108
  refine x_beat1 hq hu ?_
  dsimp only
  refine br_f (by decide) ⟨w, nm_r (e' := upd xst t 1) (by rw [et]) ⟨w, nm_r (e' := upd xr t (nI s)) (by rw [et]) (br_t rfl ⟨?_, ?_⟩)⟩⟩
  · rw [ix_41]; exact vi_ (by omega) (by omega)
  · rw [ix_41, e5]; exact x_finish ht hh K
theorem x_rsG {i t q u : Nat} {f : Nat} {s : Nat} (ht : t < 7) (hu : u < 1000) (hq : q < u) (K : wpX_enter post (xd, (nI u), xN, xL, xF, xV, xC, (nI t), ph, cr, ec, en, ft, (nI (q + 1)), pr, op, a, b, xp, fi, xl, nx, xo, fn, fe, vn, vo, vv, (upd xst t 1), xf, (upd xr t (nI s)), xh, xc, fN, fX, fS, fT, fL, pv) (nI f) (nI i)) : wX_concludeResume_108 post (nI i) (nI t) (nI f) 1 xd (nI u) xN xL xF xV xC (nI s) ph cr ec en ft (nI q) pr op a b xp fi xl nx xo fn fe vn vo vv xst xf xr xh xc fN fX fS fT fL pv := by
  have et := nc_ (n := t) (by omega)
  have w := vi_ (n := t) (N := 7) ht (by omega)
  unfold wX_concludeResume_108
  refine x_beat1 hq hu ?_
  exact br_f (by decide) ⟨w, nm_r (e' := upd xst t 1) (by rw [et]) ⟨w, nm_r (e' := upd xr t (nI s)) (by rw [et]) (br_f (by decide) K)⟩⟩
theorem x_e18_0 {i g e : Nat} (hg : g < 96) (hp : b g = nI 0) (K : wX_enter_71 post (nI g) (nI e) xd xg xN xL xF xV xC xs ph cr ec en ft bt pr op a b xp fi xl nx xo fn fe vn vo vv xst xf xr xh xc fN fX fS fT fL pv) : wX_enter_18 post (nI i) (nI g) 1 (nI e) 0 xd xg xN xL xF xV xC xs ph cr ec en ft bt pr op a b xp fi xl nx xo fn fe vn vo vv xst xf xr xh xc fN fX fS fT fL pv := by
  have eg := nc_ (n := g) (by omega)
  refine ⟨vi_ hg (by omega), br_t ?_ K⟩
  rw [eg, hp]; decide
theorem x_e18_1 {i g e V : Nat} (hi : i < 896) (hg : g < 96) (hp : b g = nI 1) (hV : V < 120) (K : wX_enter_71 post (nI g) (nI (V + 1)) xd xg xN xL xF (nI (V + 1)) xC xs ph cr ec en ft bt pr op a b xp fi xl nx xo fn fe (upd vn (V + 1) (a g)) (upd vo (V + 1) (nI e)) (vp_updL vv (V + 1) (fL (i * 4 + 1))) xst xf xr xh xc fN fX fS fT fL pv) : wX_enter_18 post (nI i) (nI g) 2 (nI e) 0 xd xg xN xL xF (nI V) xC xs ph cr ec en ft bt pr op a b xp fi xl nx xo fn fe vn vo vv xst xf xr xh xc fN fX fS fT fL pv := by
  have eg := nc_ (n := g) (by omega)
  have e5 := nc_ (n := i * 4 + 1) (by omega)
  have wg := vi_ (n := g) (N := 96) hg (by omega)
  refine ⟨wg, br_f ?_ (br_f (by decide) ⟨wg, ?_, ?_⟩)⟩
  · rw [eg, hp]; decide
  · rw [ix_41, Int32.add_zero]; exact vi_ (by omega) (by omega)
  · rw [ix_41, Int32.add_zero (nI (i * 4 + 1)), e5, eg, Int32.add_zero (a g)]
    refine x_var hV ?_
    refine nm_r (e' := 1) (by decide) ⟨wg, br_t ?_ K⟩
    rw [eg, hp]; decide
end
section
variable {yd yg yN yi yo yV yF yC ys yft ybt res yer ypl ypr rn hs : Int32} {gv gt : Int64} {op a b pa fi nx yp wn wu gn ge : Nat → Int32} {wv : Nat → Int64} {yl ya ye : Nat → Int32} {yk : Nat → Int64} {yt yc yst yf yr : Nat → Int32} {ou : Nat → Int64}
variable {post : SY → Prop}
theorem y_rsA {n : Int32} {x v : Int64} (hx : ¬ 12884901888 ≤ x) (K : wpY_raise post (yd, yg, yN, yi, yo, yV, yF, yC, ys, yft, ybt, res, yer, ypl, ypr, rn, hs, gv, gt, op, a, b, pa, fi, nx, yp, wn, wu, gn, ge, wv, yl, ya, ye, yk, yt, yc, yst, yf, yr, ou) 2 n) : wpY_resume post (yd, yg, yN, yi, yo, yV, yF, yC, ys, yft, ybt, res, yer, ypl, ypr, rn, hs, gv, gt, op, a, b, pa, fi, nx, yp, wn, wu, gn, ge, wv, yl, ya, ye, yk, yt, yc, yst, yf, yr, ou) n x v := br_f hx K
theorem y_rsK {n : Int32} {x v : Int64} {t f g : Nat} {z : Int32} (hle : 12884901888 ≤ x) (hx : (x - 12884901888).toInt32 + 1 = nI t) (ht : t < 7) (hf : yf t = nI f) (hf4 : f < 40) (hg : gn f = nI g) (hz : (yt t = 0 ∧ z = 1) ∨ (¬ yt t = 0 ∧ z = 0)) (K : wY_resume_54 post n v (nI t) (nI g) z yd yg yN yi yo yV yF yC ys yft ybt res yer ypl ypr rn hs gv gt op a b pa fi nx yp wn wu gn ge wv yl ya ye yk yt yc yst yf yr ou) : wpY_resume post (yd, yg, yN, yi, yo, yV, yF, yC, ys, yft, ybt, res, yer, ypl, ypr, rn, hs, gv, gt, op, a, b, pa, fi, nx, yp, wn, wu, gn, ge, wv, yl, ya, ye, yk, yt, yc, yst, yf, yr, ou) n x v := by
  have et := nc_ (n := t) (by omega)
  have ef := nc_ (n := f) (by omega)
  have w := vi_ (n := t) (N := 7) ht (by omega)
  refine br_t hle (nm_r hx ⟨w, ?_⟩)
  rw [et, hf, ef, hg]
  refine ⟨vi_ hf4 (by omega), nm_r (e' := nI g) rfl ⟨w, ?_⟩⟩
  rcases hz with ⟨h1, h2⟩ | ⟨h1, h2⟩
  · rw [h2] at K; exact br_t h1 K
  · rw [h2] at K; exact br_f h1 K
theorem y_rs5 {n z g : Int32} {v : Int64} {t w : Nat} (ht : t < 7) (hw : yst t = nI w) (hw0 : w ≠ 0) (hw9 : w < 100) (K : wpY_raise post (yd, yg, yN, yi, yo, yV, yF, yC, ys, yft, ybt, res, yer, ypl, ypr, rn, hs, gv, gt, op, a, b, pa, fi, nx, yp, wn, wu, gn, ge, wv, yl, ya, ye, yk, yt, yc, yst, yf, yr, ou) 5 n) : wY_resume_54 post n v (nI t) g z yd yg yN yi yo yV yF yC ys yft ybt res yer ypl ypr rn hs gv gt op a b pa fi nx yp wn wu gn ge wv yl ya ye yk yt yc yst yf yr ou := by
  have et := nc_ (n := t) (by omega)
  refine ⟨vi_ ht (by omega), ?_⟩
  rw [et, hw]
  exact br_f (nI_ne0 (by omega) (by omega)) K
theorem y_rs7 {n : Int32} {v : Int64} {t g p V : Nat} (ht : t < 7) (hw : yst t = 0) (hg : g < 96) (hp : b g = nI p) (hp9 : p < 100) (hV9 : V < 1000) (hV : 120 < V + p) (K : wpY_raise post (yd, yg, yN, yi, yo, (nI V), yF, yC, ys, yft, ybt, res, yer, ypl, ypr, rn, hs, gv, gt, op, a, b, pa, fi, nx, yp, wn, wu, gn, ge, wv, yl, ya, ye, yk, yt, yc, yst, yf, yr, ou) 7 n) : wY_resume_54 post n v (nI t) (nI g) 1 yd yg yN yi yo (nI V) yF yC ys yft ybt res yer ypl ypr rn hs gv gt op a b pa fi nx yp wn wu gn ge wv yl ya ye yk yt yc yst yf yr ou := by
  have et := nc_ (n := t) (by omega)
  have eg := nc_ (n := g) (by omega)
  refine ⟨vi_ ht (by omega), ?_⟩
  rw [et, hw, eg, hp]
  exact br_t rfl (br_f (by decide) ⟨vi_ hg (by omega), br_f (by rw [nI_add]; exact nI_ge (a := 120) hV (by omega)) K⟩)
theorem y_rs1 {n : Int32} {v : Int64} {t g p V : Nat} (ht : t < 7) (hw : yst t = 0) (hg : g < 96) (hp : b g = nI p) (hp9 : p < 100) (hV : V + p ≤ 120) (K : wY_resume_107 post v (nI t) (nI g) 1 yd yg yN yi yo (nI V) yF yC ys yft ybt res yer ypl ypr rn hs gv gt op a b pa fi nx yp wn wu gn ge wv yl ya ye yk yt yc yst yf yr ou) : wY_resume_54 post n v (nI t) (nI g) 1 yd yg yN yi yo (nI V) yF yC ys yft ybt res yer ypl ypr rn hs gv gt op a b pa fi nx yp wn wu gn ge wv yl ya ye yk yt yc yst yf yr ou := by
  have et := nc_ (n := t) (by omega)
  have eg := nc_ (n := g) (by omega)
  refine ⟨vi_ ht (by omega), ?_⟩
  rw [et, hw, eg, hp]
  exact br_t rfl (br_f (by decide) ⟨vi_ hg (by omega), br_t (by rw [nI_add]; exact nI_le (b := 120) hV (by omega)) K⟩)
theorem y_rs0 {n : Int32} {v : Int64} {t g : Nat} (ht : t < 7) (hw : yst t = 0) (K : wY_resume_107 post v (nI t) (nI g) 0 yd yg yN yi yo yV yF yC ys yft ybt res yer ypl ypr rn hs gv gt op a b pa fi nx yp wn wu gn ge wv yl ya ye yk yt yc yst yf yr ou) : wY_resume_54 post n v (nI t) (nI g) 0 yd yg yN yi yo yV yF yC ys yft ybt res yer ypl ypr rn hs gv gt op a b pa fi nx yp wn wu gn ge wv yl ya ye yk yt yc yst yf yr ou := by
  have et := nc_ (n := t) (by omega)
  refine ⟨vi_ ht (by omega), ?_⟩
  rw [et, hw]
  exact br_t rfl (br_t rfl K)
theorem y_rsE {t g z : Int32} {v : Int64} {u : Nat} (K : post (yd, (nI u), yN, yi, yo, yV, yF, yC, ys, yft, (nI u), 2, yer, ypl, ypr, 0, hs, 4294967296, gt, op, a, b, pa, fi, nx, yp, wn, wu, gn, ge, wv, yl, ya, ye, yk, yt, yc, yst, yf, yr, ou)) : wY_resume_107 post v t g z yd (nI u) yN yi yo yV yF yC ys yft (nI u) res yer ypl ypr rn hs gv gt op a b pa fi nx yp wn wu gn ge wv yl ya ye yk yt yc yst yf yr ou := by
  unfold wY_resume_107
  refine y_beat0 ?_
  exact br_t rfl K
theorem y_rsF {t q u s : Nat} {g : Int32} {v : Int64} (ht : t < 7) (hu : u < 1000) (hq : q < u) (K : wpY_finish post (yd, (nI u), yN, yi, yo, yV, yF, yC, (nI t), yft, (nI (q + 1)), res, yer, ypl, ypr, rn, hs, gv, gt, op, a, b, pa, fi, nx, yp, wn, wu, gn, ge, wv, yl, ya, ye, yk, yt, yc, (upd yst t 1), yf, (upd yr t (nI s)), ou) v) : wY_resume_107 post v (nI t) g 0 yd (nI u) yN yi yo yV yF yC (nI s) yft (nI q) res yer ypl ypr rn hs gv gt op a b pa fi nx yp wn wu gn ge wv yl ya ye yk yt yc yst yf yr ou := by
  have et := nc_ (n := t) (by omega)
  have w := vi_ (n := t) (N := 7) ht (by omega)
  unfold wY_resume_107
  refine y_beat1 hq hu ?_
  exact br_f (by decide) ⟨w, nm_r (e' := upd yst t 1) (by rw [et]) ⟨w, nm_r (e' := upd yr t (nI s)) (by rw [et]) (br_t rfl K)⟩⟩
theorem y_rsG0 {t q u s f g : Nat} {en : Int32} {v : Int64} (ht : t < 7) (hu : u < 1000) (hq : q < u) (hf : yf t = nI f) (hf4 : f < 40) (he : ge f = en) (hg : g < 96) (hp : b g = nI 0) (K : wpY_begin post (yd, (nI u), yN, yi, yo, yV, yF, yC, (nI t), yft, (nI (q + 1)), res, yer, ypl, ypr, rn, hs, gv, gt, op, a, b, pa, fi, nx, yp, wn, wu, gn, ge, wv, yl, ya, ye, yk, yt, yc, (upd yst t 1), yf, (upd yr t (nI s)), ou) (nI g) en) : wY_resume_107 post v (nI t) (nI g) 1 yd (nI u) yN yi yo yV yF yC (nI s) yft (nI q) res yer ypl ypr rn hs gv gt op a b pa fi nx yp wn wu gn ge wv yl ya ye yk yt yc yst yf yr ou := by
  have et := nc_ (n := t) (by omega)
  have ef := nc_ (n := f) (by omega)
  have eg := nc_ (n := g) (by omega)
  have w := vi_ (n := t) (N := 7) ht (by omega)
  unfold wY_resume_107
  refine y_beat1 hq hu ?_
  dsimp only
  refine br_f (by decide) ⟨w, nm_r (e' := upd yst t 1) (by rw [et]) ⟨w, nm_r (e' := upd yr t (nI s)) (by rw [et]) (br_f (by decide) ⟨w, ?_, nm_r (e' := en) (by rw [et, hf, ef, he]) ⟨vi_ hg (by omega), br_f ?_ K⟩⟩)⟩⟩
  · rw [et, hf]; exact vi_ hf4 (by omega)
  · rw [eg, hp]; decide
theorem y_rsG1 {t q u s f g V : Nat} {en : Int32} {v : Int64} (ht : t < 7) (hu : u < 1000) (hq : q < u) (hf : yf t = nI f) (hf4 : f < 40) (he : ge f = en) (hg : g < 96) (hp : b g = nI 1) (hV : V < 120) (K : wpY_begin post (yd, (nI u), yN, yi, yo, (nI (V + 1)), yF, yC, (nI t), yft, (nI (q + 1)), res, yer, ypl, ypr, rn, hs, gv, gt, op, a, b, pa, fi, nx, yp, (upd wn V (a g)), (upd wu V en), gn, ge, (vp_updL wv V v), yl, ya, ye, yk, yt, yc, (upd yst t 1), yf, (upd yr t (nI s)), ou) (nI g) (nI V)) : wY_resume_107 post v (nI t) (nI g) 1 yd (nI u) yN yi yo (nI V) yF yC (nI s) yft (nI q) res yer ypl ypr rn hs gv gt op a b pa fi nx yp wn wu gn ge wv yl ya ye yk yt yc yst yf yr ou := by
  have et := nc_ (n := t) (by omega)
  have ef := nc_ (n := f) (by omega)
  have eg := nc_ (n := g) (by omega)
  have w := vi_ (n := t) (N := 7) ht (by omega)
  have wg := vi_ (n := g) (N := 96) hg (by omega)
  unfold wY_resume_107
  refine y_beat1 hq hu ?_
  dsimp only
  refine br_f (by decide) ⟨w, nm_r (e' := upd yst t 1) (by rw [et]) ⟨w, nm_r (e' := upd yr t (nI s)) (by rw [et]) (br_f (by decide) ⟨w, ?_, nm_r (e' := en) (by rw [et, hf, ef, he]) ⟨wg, br_t ?_ ⟨wg, ?_⟩⟩⟩)⟩⟩
  · rw [et, hf]; exact vi_ hf4 (by omega)
  · rw [eg, hp]; decide
  · rw [eg]
    exact y_var hV K
end
section
variable {op a b fi nx pa : Nat → Int32} {N : Nat} {oc pc E lv : Nat → Nat} {kd : Nat → Nat → Nat} {SC : Nat → Int32 → Prop}
variable {F C V : Nat} {D : Nat → Int32 → Prop} {K T : Nat → Nat → Nat} {fN fX fS fT : Nat → Int32} {fL : Nat → Int64} {yl ya ye : Nat → Int32} {yk : Nat → Int64} {P H : Nat → Nat} {dep : Nat} {xh xc yt yc fn fe gn ge vn vo : Nat → Int32} {vv : Nat → Int64} {wn wu : Nat → Int32} {wv : Nat → Int64} {xst xf xr yst yf yr : Nat → Int32} {Q : Nat → Nat} {k s h : Nat}
variable {fu : Nat} {xN xL : Int32} {xp xl xo : Nat → Int32} {yN yi yo : Int32} {yp : Nat → Int32}
variable {ph ec en ft : Int32} {cr gv gt : Int64} {q w φ : Nat} {pv ou : Nat → Int64} {hs : Int32}
/-- the potential of a strand without frames begins at nought -/
theorem cc_T0 (ht : (ct_all op a b fi nx pa N oc pc E lv kd SC)) (h1 : (cc_C N oc pc E lv kd a b SC F C V D K T fN fX fS fT fL yl ya ye yk P H dep xh xc yt yc fn fe gn ge vn vo vv wn wu wv xst xf xr yst yf yr Q k s 0)) : (cc_C N oc pc E lv kd a b SC F C V D K (kt_ T s 0 0) fN fX fS fT fL yl ya ye yk P H dep xh xc yt yc fn fe gn ge vn vo vv wn wu wv xst xf xr yst yf yr Q k s 0) := by
  have h6 := cc_dep h1
  obtain ⟨g1, gK, gV, gF, gQ, gS, gC, gZ, gR⟩ := h1
  have S1 : ∀ r, r ≠ s → (cs_S N oc pc E lv kd a b SC F C V D K T fN fX fS fT fL yl ya ye yk P H dep xh xc yt yc r) → (cs_S N oc pc E lv kd a b SC F C V D K (kt_ T s 0 0) fN fX fS fT fL yl ya ye yk P H dep xh xc yt yc r) := fun r hr hS =>
    cs_S_go ht hS hr h6 (Nat.le_refl _) (Nat.le_refl _) (Nat.le_refl _) (fun _ _ _ h => h) rfl (funext fun j => kt_n (Or.inl hr)) ca_r ca_r ca_r ca_r ca_r ca_r ca_r ca_r ca_r rfl rfl rfl rfl rfl rfl
  refine ⟨g1, gK, gV, gF, gQ, fun i hi => ?_, fun c hc1 hc2 => ?_, gZ, fun j hj => by omega⟩
  · refine S1 (Q i) (fun e => ?_) (gS i hi)
    have := gQ.2.1 i k (by omega) (Nat.le_refl _) (e.trans g1.2.2.2.2.2.symm)
    omega
  · by_cases hcs : c = s
    · have hk : 1 ≤ k := by
        rcases Nat.eq_zero_or_pos k with hk | hk
        · have := gQ.1; rw [← hk, g1.2.2.2.2.2] at this; omega
        · exact hk
      have hx := (gQ.2.2.1 k hk (Nat.le_refl _)).2.2
      rw [g1.2.2.2.2.2, ← hcs] at hx
      obtain ⟨e1, e2, _⟩ := gC c hc1 hc2
      exact ⟨e1, e2, fun h0 => absurd (h0.symm.trans hx) (by decide)⟩
    · exact cs_C_go (gC c hc1 hc2) (Nat.le_refl _) (fun _ _ => rfl) (S1 c hcs) rfl rfl rfl rfl
end
end
section
section
variable {op a b fi nx pa : Nat → Int32} {N : Nat} {oc pc E lv : Nat → Nat} {kd : Nat → Nat → Nat} {SC : Nat → Int32 → Prop}
variable {F C V : Nat} {D : Nat → Int32 → Prop} {K T : Nat → Nat → Nat} {fN fX fS fT : Nat → Int32} {fL : Nat → Int64} {yl ya ye : Nat → Int32} {yk : Nat → Int64} {P H : Nat → Nat} {dep : Nat} {xh xc yt yc fn fe gn ge vn vo : Nat → Int32} {vv : Nat → Int64} {wn wu : Nat → Int32} {wv : Nat → Int64} {xst xf xr yst yf yr : Nat → Int32} {Q : Nat → Nat} {k s h : Nat}
variable {fu : Nat} {xN xL : Int32} {xp xl xo : Nat → Int32} {yN yi yo : Int32} {yp : Nat → Int32}
variable {ph ec en ft : Int32} {cr gv gt : Int64} {q w φ : Nat} {pv ou : Nat → Int64} {hs : Int32}
/-- a fresh coroutine t begins with function node g, in scope e -/
theorem res_go {t g e q0 d φ' : Nat} (ht : (ct_all op a b fi nx pa N oc pc E lv kd SC)) (hyp : ∀ n, n < N → xp n = nI (pc n) ∧ yp n = nI (pc n)) (ht1 : 1 ≤ t) (h1 : (cc_C N oc pc E lv kd a b SC F C V D K T fN fX fS fT fL yl ya ye yk P H dep xh xc yt yc fn fe gn ge vn vo vv wn wu wv xst xf xr yst yf yr Q k t 0)) (hg : g < N) (ho : oc g = 10) (hb : b g = nI q0) (hq3 : q0 ≤ 3) (he : e ≤ V) (hS : ∀ c, SC g c → D e c) (hpar : ∀ r, r < q0 → D e (a g + nI r)) (hxh : xh t = 0) (hyt : yt t = 0) (hx : xc t = 0) (hy : yc t = 0) (hφ : φ' + d ≤ φ + 400) (hφ4 : d ≤ 400) (hq : q < fu) (hk : (cr_K φ' fu q w F C P pv ou)) :
    ∃ u1 u2 v2 j, (∀ post : SX → Prop, post u1 → wX_enter_71 post (nI g) (nI e) (nI dep) (nI fu) xN xL (nI F) (nI V) (nI C) (nI t) (-1) cr ec en ft (nI (q + 1)) (nI w) op a b xp fi xl nx xo fn fe vn vo vv xst xf xr xh xc fN fX fS fT fL pv) ∧ xs_ j u1 u2 ∧ (∀ post : SY → Prop, post v2 → wpY_begin post ((nI dep), (nI fu), yN, yi, yo, (nI V), (nI F), (nI C), (nI t), ft, (nI (q + 1)), 0, 0, (-1), (nI w), 1, 0, gv, gt, op, a, b, pa, fi, nx, yp, wn, wu, gn, ge, wv, yl, ya, ye, yk, yt, yc, yst, yf, yr, ou) (nI g) (nI e - 1)) ∧ cr_T op a b fi nx pa N oc pc E lv kd SC dep fu xN xL xp xl xo yN yi yo yp φ' (j + 5) u2 v2 := by
  have hN := ht.2.1
  have h7 := (cc_s h1).2
  have hdep := h1.1.2.2.2.2.1
  have h6 := cc_dep h1
  have hzt := cz_1 ht1
  have h2 := cc_T0 ht h1
  have hK00 := h1.2.1 t
  have hEg := ct_E ht hg
  have og : op g = 10 := ct_op ht hg ho
  have hxh' : xh t = nI 0 := hxh
  have hyt' : yt t = nI 0 := hyt
  have hx' : xc t = nI 0 := hx
  have hy' : yc t = nI 0 := hy
  rcases Nat.eq_zero_or_pos (pc g) with hpg | hpg
  · have hfg : fi g = -1 := (ht.2.2.2.2 g hg).2.2.2.2.1.1 hpg
    obtain ⟨φ1, e1, hk1⟩ := cr_beat (s := t) (P' := ch_ P t (P t)) (m := P t) (d := 400) hk h7 hq rfl (by omega)
    have hP : ch_ P t (P t) = P := by funext r; unfold ch_; split <;> simp_all
    rw [hP] at hk1
    have h3 : (cc_C N oc pc E lv kd a b SC F C V D K (kt_ T t 0 0) (upd fN (t * 128 + 0) (nI g)) (upd fX (t * 128 + 0) (fi g)) (upd fS (t * 128 + 0) (nI e)) (upd fT (t * 128 + 0) 0) (vp_updL fL ((t * 128 + 0) * 4) 0) yl ya ye yk P H dep (upd (upd xh t (nI (0 + 1))) t (nI 0)) (upd (upd xc t (nI (0 + 1))) t (nI 0)) yt (upd (upd yc t (nI (0 + 1))) t (nI 0)) fn fe gn ge vn vo vv wn wu wv xst xf xr yst yf yr Q k t 0) := cc_fr ht h2 (by omega) (by omega) (fun _ _ _ => rfl) (fun _ _ _ => rfl) (ca_u ca_r (by omega) (by omega)) (ca_u ca_r (by omega) (by omega)) (ca_u ca_r (by omega) (by omega)) (ca_u ca_r (by omega) (by omega)) (ca_l ca_r (by omega) (by omega)) ca_r ca_r ca_r ca_r ca_r (ca_u (ca_u ca_r (by omega) (by omega)) (by omega) (by omega)) (ca_u (ca_u ca_r (by omega) (by omega)) (by omega) (by omega)) ca_r (ca_u (ca_u ca_r (by omega) (by omega)) (by omega) (by omega))
    obtain ⟨r, j, z1, z2, z3, z4, z5, z6, z7, z8⟩ := cr_leave (m := 0) (wd := 2) (d := 0) (φ := φ1) (val := 0) (vy := 4294967296) (ft := ft) (ec := ec) (en := en) (gv := gv) (xN := xN) (xL := xL) (xp := xp) (xl := xl) (xo := xo) (yN := yN) (yi := yi) (yo := yo) (yp := yp) ht h3 (by omega) hk1 ht1 (Or.inr rfl) (by omega) (fun h => by omega) cv_nil
    refine ⟨_, _, _, 2, fun post KK => x_e71 h7 hxh' (by omega) (by omega) og hx' KK, xs_t (xs_a (fun post KK => x_adv1 h7 pk_us (by omega) (pk_us.trans hfg) (x_c10 h7 (by omega) pk_us (by omega) og pk_us (x_finish h7 pk_us KK)))) (xs_d (fun post KK => x_del0 ht1 h7 z1 pk_us z3 z5 KK)), fun post KK => y_begin0 h7 (by omega) hy' (by rw [(hyp g hg).2, hpg]) (y_ret0 h7 z1 z4 z2 pk_us hyt' z6 KK), ?_⟩
    rw [pk_uLs]
    obtain ⟨φ3, w1, w2⟩ := z8
    exact ⟨φ3, by omega, w2⟩
  · have kd0 := (ht.2.2.2.2 g hg).2.2.2.2.2.1 0 hpg
    have hlg := (ht.2.2.2.2 g hg).2.2.2.1.1
    have hT0 : kt_ T t 0 0 t 0 = 0 := kt_s
    obtain ⟨φ1, e1, hk1⟩ := cr_beat (s := t) (P' := ch_ P t (kt_ T t 0 0 t 0 + 4 * (E g - kd g 0) + 3)) (m := kt_ T t 0 0 t 0 + 4 * (E g - kd g 0) + 3) (d := 5) hk h7 hq rfl (by omega)
    obtain ⟨u2, v2, r1, r2, r3⟩ := enter_1 (s := t) (h := 0) (T := kt_ T t 0 0) (m := g) (e := e) (q0 := q0) (d := 5) (φ := φ') (φ' := φ1) (q := q + 1) (ec := ec) (en := en) (ft := ft) (cr := cr) (gv := gv) (gt := gt) (xN := xN) (xL := xL) (xp := xp) (xl := xl) (xo := xo) (yN := yN) (yi := yi) (yo := yo) (yp := yp) ht hyp h2 (by omega) (by omega) hg ho hb hq3 he hS hpar (by omega) hxh' (by rw [hyt', hK00, hzt]) (by rw [hK00]; exact hx') (by rw [hK00]; exact hy') hpg e1 hk1
    exact ⟨u2, u2, v2, 0, r1, xs_0 _, r2, r3⟩
theorem sA_res {n i e : Nat} (ht : (ct_all op a b fi nx pa N oc pc E lv kd SC)) (hyp : ∀ n, n < N → xp n = nI (pc n) ∧ yp n = nI (pc n)) (h1 : (cc_C N oc pc E lv kd a b SC F C V D K T fN fX fS fT fL yl ya ye yk P H dep xh xc yt yc fn fe gn ge vn vo vv wn wu wv xst xf xr yst yf yr Q k s h)) (g1 : n < N) (g2 : oc n < 19) (g3 : i < pc n) (g4 : e ≤ V) (g5 : fN (s * 128 + h) = nI n) (g6 : fT (s * 128 + h) = nI (ct_tk (oc n) i)) (g7 : fS (s * 128 + h) = nI e) (g8 : yl (112 * s + (h + K s (h + 1) - cz_ s)) = nI n) (g9 : ya (112 * s + (h + K s (h + 1) - cz_ s)) = nI i) (g10 : ye (112 * s + (h + K s (h + 1) - cz_ s)) = nI e - 1) (g11 : ∀ c, ct_in oc a b SC n i c → D e c) (g12 : cf_S F C (oc n) i (fun q => fL ((s * 128 + h) * 4 + q)) (fun q => yk (3 * (112 * s + (h + K s (h + 1) - cz_ s)) + q))) (g13 : K s (h + 1) = K s h + (if oc n = 10 then 1 else 0)) (g14 : cz_ s ≤ K s (h + 1)) (g15 : h + 1 + K s (h + 1) ≤ 16 * K s (h + 1) + lv n + cz_ s) (hn : fX (s * 128 + h) = ct_nx pc kd n (i + 1)) (hT : T s h + 4 * (E n - E (kd n i)) + 3 ≤ T s (h + 1)) (b1 : K s (h + 1) ≤ dep) (b2 : T s (h + 1) + 2 ≤ P s) (b3 : xh s = nI (h + 1)) (b4 : yt s = nI (h + 1 + K s (h + 1) - cz_ s)) (b5 : xc s = nI (K s (h + 1))) (b6 : yc s = nI (K s (h + 1))) (hk : (cr_K φ fu q w F C P pv ou)) (hv : cv_R F C cr gt) (hd : oc n = 16) : ∃ u2 v2 kx, xs_ (kx + 1) ((nI dep), (nI fu), xN, xL, (nI F), (nI V), (nI C), (nI s), (-2), cr, ec, en, ft, (nI q), (nI w), op, a, b, xp, fi, xl, nx, xo, fn, fe, vn, vo, vv, xst, xf, xr, xh, xc, fN, fX, fS, fT, fL, pv) u2 ∧ (∀ post : SY → Prop, post v2 → wpY_deliver post ((nI dep), (nI fu), yN, yi, yo, (nI V), (nI F), (nI C), (nI s), ft, (nI q), 0, 0, (-1), (nI w), 1, 0, gv, gt, op, a, b, pa, fi, nx, yp, wn, wu, gn, ge, wv, yl, ya, ye, yk, yt, yc, yst, yf, yr, ou) gt) ∧ cr_T op a b fi nx pa N oc pc E lv kd SC dep fu xN xL xp xl xo yN yi yo yp φ (kx + 1) u2 v2 := by
  have h7 := (cc_s h1).2
  have h6 := cc_dep h1
  have hKK : K s h ≤ K s (h + 1) := by omega
  have hh := cf_h ht (cc_FR h1) (by omega)
  have hN := ht.2.1
  have hl := (ht.2.2.2.2 n g1).2.2.2.1.2 (by omega)
  have hzl := cz_le s
  have hw : h + K s (h + 1) - cz_ s < 112 := by omega
  have o_ : op n = nI (oc n) := ct_op ht g1 rfl
  have b4' : yt s = nI (h + K s (h + 1) - cz_ s + 1) := by rw [b4]; exact congrArg nI (by omega)
  have hpn := (ht.2.2.2.2 n g1).1.2.2.2
  have yp_ := (hyp n g1).2
  have hEn := ct_E ht g1
  have hkd := (ht.2.2.2.2 n g1).2.2.2.2.2.1
  have h10 : oc n ≠ 10 := by omega
  have hK0 : K s (h + 1) = K s h := by rw [g13, if_neg h10]; rfl
  have b4p : yt s = nI (h + K s h - cz_ s + 1) := by rw [← hK0]; exact b4'
  have g8p : yl (112 * s + (h + K s h - cz_ s)) = nI n := by rw [← hK0]; exact g8
  have b1p : K s h ≤ dep := by omega
  have b5p : xc s = nI (K s h) := by rw [← hK0]; exact b5
  have b6p : yc s = nI (K s h) := by rw [← hK0]; exact b6
  have hwp : h + K s h - cz_ s < 112 := by omega
  have hsh : 1 ≤ s → 1 ≤ h := fun hs1 => by
    have z1 := cz_1 hs1
    rcases Nat.eq_zero_or_pos h with hz | hz
    · subst hz
      have := h1.2.1 s
      omega
    · exact hz
  have hD : oc n < 5 ∨ 10 < oc n ∨ oc n = 9 := Or.inr (Or.inl (by omega))
  have hp2 : pc n = 2 := by
    have h3 := ct_mn' ht g1
    rw [hd] at h3
    have e1 : ct_mx 16 = 2 := rfl
    have e2 : ct_mn 16 = 2 := rfl
    omega
  by_cases hlt : i + 1 < pc n
  · exact sA_Dn ht hyp h1 g1 g2 g3 g4 g5 g6 g7 g8 g9 g10 g11 g12 g13 g14 g15 hn hT b1 b2 b3 b4 b5 b6 hk hv hD hlt
  obtain rfl : i = 1 := by omega
  have o16 : op n = 16 := o_.trans (by rw [hd]; rfl)
  have h2 := cc_tk (n := n) (i := 1) (x := cr) ht h1 b1p (by omega)
  have hv0 : cv_R F C (fL ((s * 128 + h) * 4)) (yk (3 * (112 * s + (h + K s (h + 1) - cz_ s)))) := g12.2 (by omega) 0 (by omega) (by omega)
  have e0 : vp_updL fL ((s * 128 + h) * 4 + 1) cr ((s * 128 + h) * 4) = fL ((s * 128 + h) * 4) := pk_uLn (by omega)
  have hF4 := h1.1.1
  have hC6 := h1.1.2.1
  have hV2 := h1.1.2.2.1
  have hfu := hk.1.2.1
  have hzK := cf_z ht (cc_FR h1) (by omega) hsh
  have hφ2 : P s ≤ φ := by have h3 := sm_le (f := P) 7 h7; have h4 := hk.1.2.2.1; omega
  rcases xy_co hF4 hC6 hv0 with ⟨c, c1, c2, c3, c4, c5⟩ | ⟨⟨kk, c1, c2⟩, c3⟩
  · obtain ⟨t, ht7⟩ : ∃ t, t = c + 1 := ⟨_, rfl⟩
    have xi : (fL ((s * 128 + h) * 4)).toInt32 = nI t := by rw [c2, vo_i3, ht7]
    have yi' : (yk (3 * (112 * s + (h + K s (h + 1) - cz_ s))) - 12884901888).toInt32 + 1 = nI t := by rw [c3, vo_y3, ht7]
    obtain ⟨φ1, hφ1, hk1⟩ := cr_P (P' := ch_ P s (T s h + 2)) (d := 3) hk h7 rfl (by omega)
    have h3 : (cc_C N oc pc E lv kd a b SC F C V D K T fN fX fS (upd fT (s * 128 + h) (nI (1 + 1))) (vp_updL fL ((s * 128 + h) * 4 + 1) cr) yl ya ye yk (ch_ P s (T s h + 2)) H dep xh xc yt yc fn fe gn ge vn vo vv wn wu wv xst xf xr yst yf yr Q k s h) := cc_fr ht h2 (by omega) (by omega) (fun _ _ _ => rfl) (fun _ _ _ => rfl) ca_r ca_r ca_r ca_r ca_r ca_r ca_r ca_r ca_r ca_c ca_r ca_r ca_r ca_r
    obtain ⟨⟨w', w1, w2, w3⟩, ⟨f, g, p, f1, f2, f3, f4, f5, f6, f7⟩, w4⟩ := h3.2.2.2.2.2.2.1 t (by omega) (by omega)
    obtain ⟨g', e', u1, u2, u3, u4, u5, u6, u7, u8⟩ := h1.2.2.2.1 f f1
    obtain rfl : g' = g := (nI_eq (by omega) (by omega)).mp (u4.symm.trans f4)
    by_cases hw0 : w' = 0
    · subst hw0
      have hxs : xst t = 0 := w2
      have hys : yst t = 0 := w3
      have hzh : cz_ s ≤ h := by
        rcases Nat.eq_zero_or_pos s with hz | hz
        · rw [hz, cz_0]; exact Nat.zero_le _
        · rw [cz_1 hz]; exact hsh hz
      have hSs : (cs_S N oc pc E lv kd a b SC F C V D K T fN fX fS (upd fT (s * 128 + h) (nI (1 + 1))) (vp_updL fL ((s * 128 + h) * 4 + 1) cr) yl ya ye yk (ch_ P s (T s h + 2)) (ch_ H s h) dep xh xc yt yc s) := cs_S_mk (n := n) h3 b1p hzh (by rw [ch_s]; omega) (by omega) hzK b3 (by rw [b4, hK0]) b5p b6p g1 (by omega) g8p
      have xC : ∀ (z : Int32), ((xh t = 0 ∧ z = 1) ∨ (¬ xh t = 0 ∧ z = 0)) → ∀ post : SX → Prop, wX_concludeResume_70 post (nI (s * 128 + h)) (nI n) (nI t) (nI f) z (nI dep) (nI fu) xN xL (nI F) (nI V) (nI C) (nI s) (-1) cr ec en ft (nI q) (nI w) op a b xp fi xl nx xo fn fe vn vo vv xst xf xr xh xc fN fX fS (upd fT (s * 128 + h) (nI (1 + 1))) (vp_updL fL ((s * 128 + h) * 4 + 1) cr) pv → wpX_conclude post ((nI dep), (nI fu), xN, xL, (nI F), (nI V), (nI C), (nI s), (-1), cr, ec, en, ft, (nI q), (nI w), op, a, b, xp, fi, xl, nx, xo, fn, fe, vn, vo, vv, xst, xf, xr, xh, xc, fN, fX, fS, (upd fT (s * 128 + h) (nI (1 + 1))), (vp_updL fL ((s * 128 + h) * 4 + 1) cr), pv) (nI (s * 128 + h)) := fun z hz post KK => x_c16 h7 (by omega) g5 (by omega) o16 (by rw [e0]; exact x_rs70 (by omega) g5 xi (by omega) hxs f2 hz c4 KK)
      have yC : ∀ (z : Int32), ((yt t = 0 ∧ z = 1) ∨ (¬ yt t = 0 ∧ z = 0)) → ∀ post : SY → Prop, wY_resume_54 post (nI n) gt (nI t) (nI g') z (nI dep) (nI fu) yN yi yo (nI V) (nI F) (nI C) (nI s) ft (nI q) 0 0 (-1) (nI w) 1 0 gv gt op a b pa fi nx yp wn wu gn ge wv yl ya ye yk yt yc yst yf yr ou → wpY_apply post ((nI dep), (nI fu), yN, yi, yo, (nI V), (nI F), (nI C), (nI s), ft, (nI q), 0, 0, (-1), (nI w), 1, 0, gv, gt, op, a, b, pa, fi, nx, yp, wn, wu, gn, ge, wv, yl, ya, ye, yk, yt, yc, yst, yf, yr, ou) (nI (112 * s + (h + K s (h + 1) - cz_ s))) (nI n) gt := fun z hz post KK => y_a16 h7 hw (by omega) o16 (y_rsK c5 yi' (by omega) f3 (by omega) u5 hz KK)
      rcases w4 hxs with ⟨v1, v2, v3, v4⟩ | hSu
      · have xC1 := xC 1 (Or.inl ⟨v1, rfl⟩)
        have yC1 := yC 1 (Or.inl ⟨v2, rfl⟩)
        by_cases hV7 : V + p ≤ 120
        · rcases Nat.lt_or_ge q fu with hqf | hqf
          · have h4 := cc_res (m := 0) h3 hSs (show 1 ≤ t by omega) (show t ≤ C by omega) hxs (fun j hj => by omega)
            have hp01 : p = 0 ∨ p = 1 := by omega
            rcases hp01 with hp0 | hp0
            · subst hp0
              obtain ⟨s1, s2, s3, j, r1, r2, r3, r4⟩ := res_go (t := t) (g := g') (e := e') (q0 := 0) (d := 0) (φ := φ) (φ' := φ1) (q := q) (w := w) (fu := fu) (ec := ec) (en := en) (ft := ft) (cr := cr) (gv := gv) (gt := gt) (pv := pv) (ou := ou) (xN := xN) (xL := xL) (xp := xp) (xl := xl) (xo := xo) (yN := yN) (yi := yi) (yo := yo) (yp := yp) ht hyp (by omega) h4 u1 u2 f6 (by omega) u3 u8 (fun r hr => by omega) v1 v2 v3 v4 (by omega) (by omega) hqf hk1
              obtain ⟨φ3, t1, t2⟩ := r4
              exact sA_ap ht hyp h1 g1 g2 g3 g4 g5 g6 g7 g8 g9 g10 g11 g12 g13 g14 g15 hn hT b1 b2 b3 b4 b5 b6 hk hv hD (by omega) (fun post KK => xC1 post (x_rs1 (by omega) u4 (by omega) f6 (by omega) hV7 (x_rsG (by omega) (by omega) hqf (x_enter (by omega) u4 u6 ⟨1, x_e18_0 (by omega) f6 (r1 post KK)⟩)))) r2 (fun post KK => yC1 post (y_rs1 (by omega) hys (by omega) f6 (by omega) hV7 (y_rsG0 (by omega) (by omega) hqf f3 (by omega) u7 (by omega) f6 (r3 post KK)))) ⟨φ3, by omega, t2⟩
            · subst hp0
              have h5 := cc_var (m := a g') (fS' := fS) (fT' := upd fT (s * 128 + h) (nI (1 + 1))) (ya' := ya) (ye' := ye) (e := e') (x := cr) (y := gt) ht h4 (by have := h1.2.1 t; omega) (by omega) (by omega) u3 hv ca_r ca_r ca_r ca_r
              obtain ⟨s1, s2, s3, j, r1, r2, r3, r4⟩ := res_go (t := t) (g := g') (e := V + 1) (q0 := 1) (d := 0) (φ := φ) (φ' := φ1) (q := q) (w := w) (fu := fu) (ec := ec) (en := en) (ft := ft) (cr := cr) (gv := gv) (gt := gt) (pv := pv) (ou := ou) (xN := xN) (xL := xL) (xp := xp) (xl := xl) (xo := xo) (yN := yN) (yi := yi) (yo := yo) (yp := yp) ht hyp (by omega) h5 u1 u2 f6 (by omega) (Nat.le_refl _) (fun c hc => cd_D_new.mpr (Or.inr (u8 c hc))) (fun r hr => by
                obtain rfl : r = 0 := by omega
                exact cd_D_new.mpr (Or.inl (Int32.add_zero _).symm)) v1 v2 v3 v4 (by omega) (by omega) hqf hk1
              obtain ⟨φ3, t1, t2⟩ := r4
              have e5 : vp_updL fL ((s * 128 + h) * 4 + 1) cr ((s * 128 + h) * 4 + 1) = cr := pk_uLs
              refine sA_ap ht hyp h1 g1 g2 g3 g4 g5 g6 g7 g8 g9 g10 g11 g12 g13 g14 g15 hn hT b1 b2 b3 b4 b5 b6 hk hv hD (by omega) (fun post KK => xC1 post (x_rs1 (by omega) u4 (by omega) f6 (by omega) hV7 (x_rsG (by omega) (by omega) hqf (x_enter (by omega) u4 u6 ⟨2, x_e18_1 (by omega) (by omega) f6 (by omega) ?_⟩)))) r2 (fun post KK => yC1 post (y_rs1 (by omega) hys (by omega) f6 (by omega) hV7 (y_rsG1 (by omega) (by omega) hqf f3 (by omega) u7 (by omega) f6 (by omega) ?_))) ⟨φ3, by omega, t2⟩
              · rw [e5]; exact r1 post KK
              · have := r3 post KK
                rw [nI_pred] at this
                exact this
          · obtain rfl : q = fu := by have := hk.1.1; omega
            exact sA_ap ht hyp h1 g1 g2 g3 g4 g5 g6 g7 g8 g9 g10 g11 g12 g13 g14 g15 hn hT b1 b2 b3 b4 b5 b6 hk hv hD (by omega) (fun post KK => xC1 post (x_rs1 (by omega) u4 (by omega) f6 (by omega) hV7 (x_rsE (by omega) KK))) (xs_0 _) (fun post KK => yC1 post (y_rs1 (by omega) hys (by omega) f6 (by omega) hV7 (y_rsE KK))) (cr_fuel hF4 hC6 hk (by omega))
        · exact sA_raise ht hyp h1 g1 g2 g3 g4 g5 g6 g7 g8 g9 g10 g11 g12 g13 g14 g15 hn hT b1 b2 b3 b4 b5 b6 hk hv hD (by omega) 7 (fun post KK => xC1 post (x_rs7 (by omega) u4 (by omega) f6 (by omega) (by omega) (by omega) KK)) (fun post KK => yC1 post (y_rs7 (by omega) hys (by omega) f6 (by omega) (by omega) (by omega) KK))
      · have hSu' := hSu
        obtain ⟨x1, ⟨x2, x3, x4, x5, x6⟩, ⟨x7, x8, x9, x10⟩, n', x11, x12, x13⟩ := hSu'
        have x0 : ¬ xh t = 0 := by rw [x7]; exact nI_ne0 (by omega) (by have := cf_h ht x1 (by omega); omega)
        have x8' : yt t = nI (H t + K t (H t) - cz_ t + 1) := by rw [x8]; exact congrArg nI (by omega)
        have y0 : ¬ yt t = 0 := by rw [x8']; exact nI_ne0 (by omega) (by omega)
        have xC0 := xC 0 (Or.inr ⟨x0, rfl⟩)
        have yC0 := yC 0 (Or.inr ⟨y0, rfl⟩)
        have hts : t ≠ s := by
          intro hts
          subst hts
          have hk1' : 1 ≤ k := by
            rcases Nat.eq_zero_or_pos k with hz | hz
            · have e1 := h1.1.2.2.2.2.2
              have e2 := h1.2.2.2.2.1.1
              rw [hz] at e1; omega
            · exact hz
          have := (h1.2.2.2.2.1.2.2.1 k hk1' (Nat.le_refl _)).2.2
          rw [h1.1.2.2.2.2.2, hxs] at this
          exact absurd this (by decide)
        rcases Nat.lt_or_ge q fu with hqf | hqf
        · have h4 := cc_res (m := H t) h3 hSs (show 1 ≤ t by omega) (show t ≤ C by omega) hxs x1
          have hk2 : (cr_K (φ1 - 400) fu (q + 1) w F C (ch_ P s (T s h + 2)) pv ou) := ⟨⟨by omega, hfu, by have := hk1.1.2.2.1; omega, by have := hk1.1.2.2.2; omega⟩, hk1.2⟩
          have hφ9 : 400 ≤ φ1 := by have := hk1.1.2.2.1; omega
          have hn96 : op n' = nI (oc n') := ct_op ht x11 rfl
          have e5 : vp_updL fL ((s * 128 + h) * 4 + 1) cr ((s * 128 + h) * 4 + 1) = cr := pk_uLs
          obtain ⟨φ3, t1, t2⟩ := cr_pop (s := t) (h := H t) (d := 0) (φ := φ1 - 400) (q := q + 1) (cr := cr) (gt := gt) (ec := ec) (en := en) (ft := ft) (gv := gv) (xN := xN) (xL := xL) (xp := xp) (xl := xl) (xo := xo) (yN := yN) (yi := yi) (yo := yo) (yp := yp) ht h4 x2 x9 x10 (fun _ => by rw [cz_1 (show 1 ≤ t by omega)] at x3; exact x3) hk2 (by omega) hv
          have hno : oc n' ≤ 21 := (ht.2.2.2.2 n' x11).1.1
          refine sA_ap ht hyp h1 g1 g2 g3 g4 g5 g6 g7 g8 g9 g10 g11 g12 g13 g14 g15 hn hT b1 b2 b3 b4 b5 b6 hk hv hD (by omega) (fun post KK => xC0 post (x_rs0 (x_rsF (by omega) (by omega) (by omega) hqf x7 (by rw [e5]; exact KK)))) (xs_0 _) (fun post KK => yC0 post (y_rs0 (by omega) hys (y_rsF (by omega) (by omega) hqf (y_finish (by omega) x8' (by omega) x13 (by omega) hn96 hno x12 KK)))) ⟨φ3, by omega, t2⟩
        · obtain rfl : q = fu := by have := hk.1.1; omega
          exact sA_ap ht hyp h1 g1 g2 g3 g4 g5 g6 g7 g8 g9 g10 g11 g12 g13 g14 g15 hn hT b1 b2 b3 b4 b5 b6 hk hv hD (by omega) (fun post KK => xC0 post (x_rs0 (x_rsE (by omega) KK))) (xs_0 _) (fun post KK => yC0 post (y_rs0 (by omega) hys (y_rsE KK))) (cr_fuel hF4 hC6 hk (by omega))
    · have yz : ∃ z : Int32, (yt t = 0 ∧ z = 1) ∨ (¬ yt t = 0 ∧ z = 0) := by
        by_cases h0 : yt t = 0
        · exact ⟨1, Or.inl ⟨h0, rfl⟩⟩
        · exact ⟨0, Or.inr ⟨h0, rfl⟩⟩
      obtain ⟨z, hz⟩ := yz
      exact sA_raise ht hyp h1 g1 g2 g3 g4 g5 g6 g7 g8 g9 g10 g11 g12 g13 g14 g15 hn hT b1 b2 b3 b4 b5 b6 hk hv hD (by omega) 5 (fun post KK => x_c16 h7 (by omega) g5 (by omega) o16 (by rw [e0]; exact x_rs5 (by omega) g5 xi (by omega) w2 hw0 (by omega) c4 KK)) (fun post KK => y_a16 h7 hw (by omega) o16 (y_rsK c5 yi' (by omega) f3 (by omega) u5 hz (y_rs5 (by omega) w3 hw0 (by omega) KK)))
  · exact sA_raise ht hyp h1 g1 g2 g3 g4 g5 g6 g7 g8 g9 g10 g11 g12 g13 g14 g15 hn hT b1 b2 b3 b4 b5 b6 hk hv hD (by omega) 2 (fun post KK => x_c16 h7 (by omega) g5 (by omega) o16 (by rw [e0]; exact x_rsA (by omega) g5 c1 c2 KK)) (fun post KK => y_a16 h7 hw (by omega) o16 (y_rsA c3 KK))
end
end
section
section
variable {op a b fi nx pa : Nat → Int32} {N : Nat} {oc pc E lv : Nat → Nat} {kd : Nat → Nat → Nat} {SC : Nat → Int32 → Prop}
variable {F C V : Nat} {D : Nat → Int32 → Prop} {K T : Nat → Nat → Nat} {fN fX fS fT : Nat → Int32} {fL : Nat → Int64} {yl ya ye : Nat → Int32} {yk : Nat → Int64} {P H : Nat → Nat} {dep : Nat} {xh xc yt yc fn fe gn ge vn vo : Nat → Int32} {vv : Nat → Int64} {wn wu : Nat → Int32} {wv : Nat → Int64} {xst xf xr yst yf yr : Nat → Int32} {Q : Nat → Nat} {k s h : Nat}
variable {fu : Nat} {xN xL : Int32} {xp xl xo : Nat → Int32} {yN yi yo : Int32} {yp : Nat → Int32}
variable {ph ec en ft : Int32} {cr gv gt : Int64} {q w φ : Nat} {pv ou : Nat → Int64} {hs : Int32}
theorem step_A {u : SX} {v : SY} (ht : (ct_all op a b fi nx pa N oc pc E lv kd SC)) (hyp : ∀ n, n < N → xp n = nI (pc n) ∧ yp n = nI (pc n)) (hA : cr_A op a b fi nx pa N oc pc E lv kd SC dep fu xN xL xp xl xo yN yi yo yp φ u v) : ∃ u2 v2 kx, xs_ (kx + 1) u u2 ∧ ys_ v v2 ∧ cr_T op a b fi nx pa N oc pc E lv kd SC dep fu xN xL xp xl xo yN yi yo yp φ (kx + 1) u2 v2 := by
  obtain ⟨F, C, V, D, K, T, P, H, Q, k, s, h, q, w, ec, en, ft, cr, gv, gt, fn, fe, vn, vo, vv, xst, xf, xr, xh, xc, fN, fX, fS, fT, fL, pv, wn, wu, gn, ge, wv, yl, ya, ye, yk, yt, yc, yst, yf, yr, ou, rfl, rfl, h1, ⟨⟨b1, b2, b7⟩, b3, b4, b5, b6⟩, hk, hv⟩ := hA
  have h7 := (cc_s h1).2
  rcases Nat.eq_zero_or_pos h with hz | hz
  · subst hz
    obtain rfl : s = 0 := by
      rcases Nat.eq_zero_or_pos s with hz | hz
      · exact hz
      · have := b7 hz; omega
    have hK0 := h1.2.1 0
    have hφ2 : P 0 ≤ φ := by have h3 := sm_le (f := P) 7 h7; have h4 := hk.1.2.2.1; omega
    refine ⟨_, _, 0, xs_d (fun post KK => x_delM b3 KK), ys_d (fun post KK => y_del0 h7 (by rw [b4, hK0]; rfl) KK), cr_mkE (by omega) h1.1.1 h1.1.2.1 (by have := hk.1.2.2.2; omega) (by decide) ⟨0, by omega, rfl, rfl, fun _ => hv, fun h => by omega, fun _ => ⟨rfl, rfl⟩⟩ hk.2⟩
  · obtain ⟨j, rfl⟩ : ∃ j, h = j + 1 := ⟨h - 1, by omega⟩
    obtain ⟨h2, hW⟩ := cc_dn h1
    obtain ⟨n, i, e, ⟨⟨g1, g2, g3, g4⟩, ⟨g5, g6, g7⟩, ⟨g8, g9, g10⟩, g11, g12, ⟨g13, g14, g15⟩⟩, hn, hT⟩ := hW
    have B : ∃ u2 v2 kx, xs_ (kx + 1) ((nI dep), (nI fu), xN, xL, (nI F), (nI V), (nI C), (nI s), (-2), cr, ec, en, ft, (nI q), (nI w), op, a, b, xp, fi, xl, nx, xo, fn, fe, vn, vo, vv, xst, xf, xr, xh, xc, fN, fX, fS, fT, fL, pv) u2 ∧ (∀ post : SY → Prop, post v2 → wpY_deliver post ((nI dep), (nI fu), yN, yi, yo, (nI V), (nI F), (nI C), (nI s), ft, (nI q), 0, 0, (-1), (nI w), 1, 0, gv, gt, op, a, b, pa, fi, nx, yp, wn, wu, gn, ge, wv, yl, ya, ye, yk, yt, yc, yst, yf, yr, ou) gt) ∧ cr_T op a b fi nx pa N oc pc E lv kd SC dep fu xN xL xp xl xo yN yi yo yp φ (kx + 1) u2 v2 := by
      by_cases c5 : oc n = 5
      · rcases Nat.eq_zero_or_pos i with h0 | h0
        · exact sA_if0 ht hyp h2 g1 g2 g3 g4 g5 g6 g7 g8 g9 g10 g11 g12 g13 g14 g15 hn hT b1 b2 b3 b4 b5 b6 hk hv c5 h0
        · exact sA_if1 ht hyp h2 g1 g2 g3 g4 g5 g6 g7 g8 g9 g10 g11 g12 g13 g14 g15 hn hT b1 b2 b3 b4 b5 b6 hk hv c5 h0
      by_cases c6 : oc n = 6
      · by_cases hlt : i + 1 < pc n
        · exact sA_seqn ht hyp h2 g1 g2 g3 g4 g5 g6 g7 g8 g9 g10 g11 g12 g13 g14 g15 hn hT b1 b2 b3 b4 b5 b6 hk hv (Or.inl c6) hlt
        · exact sA_seql ht hyp h2 g1 g2 g3 g4 g5 g6 g7 g8 g9 g10 g11 g12 g13 g14 g15 hn hT b1 b2 b3 b4 b5 b6 hk hv c6 (by omega)
      by_cases c7 : oc n = 7
      · exact sA_while ht hyp h2 g1 g2 g3 g4 g5 g6 g7 g8 g9 g10 g11 g12 g13 g14 g15 hn hT b1 b2 b3 b4 b5 b6 hk hv c7
      by_cases c8 : oc n = 8
      · rcases Nat.eq_zero_or_pos i with h0 | h0
        · exact sA_loc0 ht hyp h2 g1 g2 g3 g4 g5 g6 g7 g8 g9 g10 g11 g12 g13 g14 g15 hn hT b1 b2 b3 b4 b5 b6 hk hv c8 h0
        · exact sA_loc1 ht hyp h2 g1 g2 g3 g4 g5 g6 g7 g8 g9 g10 g11 g12 g13 g14 g15 hn hT b1 b2 b3 b4 b5 b6 hk hv c8 h0
      by_cases c10 : oc n = 10
      · by_cases hlt : i + 1 < pc n
        · exact sA_seqn ht hyp h2 g1 g2 g3 g4 g5 g6 g7 g8 g9 g10 g11 g12 g13 g14 g15 hn hT b1 b2 b3 b4 b5 b6 hk hv (Or.inr c10) hlt
        · exact sA_fun ht hyp h2 g1 g2 g3 g4 g5 g6 g7 g8 g9 g10 g11 g12 g13 g14 g15 hn hT b1 b2 b3 b4 b5 b6 hk hv c10 (by omega)
      by_cases c3 : oc n < 4
      · exact sA_arith ht hyp h2 g1 g2 g3 g4 g5 g6 g7 g8 g9 g10 g11 g12 g13 g14 g15 hn hT b1 b2 b3 b4 b5 b6 hk hv c3
      by_cases c4 : oc n = 4
      · exact sA_same ht hyp h2 g1 g2 g3 g4 g5 g6 g7 g8 g9 g10 g11 g12 g13 g14 g15 hn hT b1 b2 b3 b4 b5 b6 hk hv c4
      by_cases c9 : oc n = 9
      · exact sA_set ht hyp h2 g1 g2 g3 g4 g5 g6 g7 g8 g9 g10 g11 g12 g13 g14 g15 hn hT b1 b2 b3 b4 b5 b6 hk hv c9
      by_cases c11 : oc n = 11
      · by_cases hlt : i + 1 < pc n
        · exact sA_Dn ht hyp h2 g1 g2 g3 g4 g5 g6 g7 g8 g9 g10 g11 g12 g13 g14 g15 hn hT b1 b2 b3 b4 b5 b6 hk hv (Or.inr (Or.inl (by omega))) hlt
        · exact sA_call ht hyp h2 g1 g2 g3 g4 g5 g6 g7 g8 g9 g10 g11 g12 g13 g14 g15 hn hT b1 b2 b3 b4 b5 b6 hk hv c11 (by omega)
      by_cases c12 : oc n = 12
      · exact sA_ret ht hyp h2 g1 g2 g3 g4 g5 g6 g7 g8 g9 g10 g11 g12 g13 g14 g15 hn hT b1 b2 b3 b4 b5 b6 hk hv c12
      by_cases c13 : oc n = 13
      · exact sA_err ht hyp h2 g1 g2 g3 g4 g5 g6 g7 g8 g9 g10 g11 g12 g13 g14 g15 hn hT b1 b2 b3 b4 b5 b6 hk hv c13
      by_cases c14 : oc n = 14
      · exact sA_print ht hyp h2 g1 g2 g3 g4 g5 g6 g7 g8 g9 g10 g11 g12 g13 g14 g15 hn hT b1 b2 b3 b4 b5 b6 hk hv c14
      by_cases c15 : oc n = 15
      · exact sA_create ht hyp h2 g1 g2 g3 g4 g5 g6 g7 g8 g9 g10 g11 g12 g13 g14 g15 hn hT b1 b2 b3 b4 b5 b6 hk hv c15
      by_cases c16 : oc n = 16
      · exact sA_res ht hyp h2 g1 g2 g3 g4 g5 g6 g7 g8 g9 g10 g11 g12 g13 g14 g15 hn hT b1 b2 b3 b4 b5 b6 hk hv c16
      by_cases c17 : oc n = 17
      · exact sA_yield ht hyp h2 g1 g2 g3 g4 g5 g6 g7 g8 g9 g10 g11 g12 g13 g14 g15 hn hT b1 b2 b3 b4 b5 b6 hk hv c17
      · exact sA_stat ht hyp h2 g1 g2 g3 g4 g5 g6 g7 g8 g9 g10 g11 g12 g13 g14 g15 hn hT b1 b2 b3 b4 b5 b6 hk hv (by omega)
    obtain ⟨u2, v2, kx, r1, r2, r3⟩ := B
    exact ⟨u2, v2, kx, r1, ys_d r2, r3⟩
def xph_ (u : SX) : Int32 := match u with
  | (xd, xg, xN, xL, xF, xV, xC, xs, ph, cr, ec, en, ft, bt, pr, op, a, b, xp, fi, xl, nx, xo, fn, fe, vn, vo, vv, xst, xf, xr, xh, xc, fN, fX, fS, fT, fL, pv) => ph
/-- the end of both loops -/
theorem end_X {u : SX} {v : SY} {post : Int32 → SX → Prop} {n : Nat} {x : Int32} (hE : cr_E op a b fi nx pa dep fu xN xL xp xl xo yN yi yo yp u v) (K : post (xph_ u) u) : xl_ post (n + 1) x u := by
  obtain ⟨F, C, V, s, q, w, ph, ec, en, ft, res, yer, ypl, hs, cr, gv, gt, fn, fe, vn, vo, vv, xst, xf, xr, xh, xc, fN, fX, fS, fT, fL, pv, wn, wu, gn, ge, wv, yl, ya, ye, yk, yt, yc, yst, yf, yr, ou, rfl, rfl, e1, e2, e3, e4, e5, e6⟩ := hE
  exact br_c (fun _ => K) (fun _ => br_t e4 K)
theorem end_Y {u : SX} {v : SY} {post : Int32 → SY → Prop} {n : Nat} (hE : cr_E op a b fi nx pa dep fu xN xL xp xl xo yN yi yo yp u v) (K : post (xph_ u) v) : yl_ post (n + 1) v := by
  obtain ⟨F, C, V, s, q, w, ph, ec, en, ft, res, yer, ypl, hs, cr, gv, gt, fn, fe, vn, vo, vv, xst, xf, xr, xh, xc, fN, fX, fS, fT, fL, pv, wn, wu, gn, ge, wv, yl, ya, ye, yk, yt, yc, yst, yf, yr, ou, rfl, rfl, e1, e2, e3, e4, ⟨p, p1, p2, p3, _⟩, e6⟩ := hE
  have hr : res = ph := p3.trans p2.symm
  subst hr
  exact br_t rfl K
/-- both loops, to their end -/
theorem run_main (ht : (ct_all op a b fi nx pa N oc pc E lv kd SC)) (hyp : ∀ n, n < N → xp n = nI (pc n) ∧ yp n = nI (pc n)) : ∀ φ (u : SX) (v : SY), (cr_A op a b fi nx pa N oc pc E lv kd SC dep fu xN xL xp xl xo yN yi yo yp φ u v ∨ cr_B op a b fi nx pa N oc pc E lv kd SC dep fu xN xL xp xl xo yN yi yo yp φ u v ∨ cr_E op a b fi nx pa dep fu xN xL xp xl xo yN yi yo yp u v) → ∀ (q n : Nat) (post : Int32 → SX → Prop), q + φ ≤ 1000000 → φ < n → (∀ u' v', cr_E op a b fi nx pa dep fu xN xL xp xl xo yN yi yo yp u' v' → (∀ postY : Int32 → SY → Prop, postY (xph_ u') v' → ∃ m, yl_ postY m v) → post (xph_ u') u') → xl_ post n (nI q) u := by
  intro φ
  induction φ using Nat.strongRecOn with
  | _ φ ih =>
    intro u v hS q n post hq hn hc
    have go : (∃ u2 v2 kx, xs_ (kx + 1) u u2 ∧ ys_ v v2 ∧ cr_T op a b fi nx pa N oc pc E lv kd SC dep fu xN xL xp xl xo yN yi yo yp φ (kx + 1) u2 v2) → xl_ post n (nI q) u := by
      rintro ⟨u2, v2, kx, r1, r2, φ', r3, r4⟩
      obtain ⟨n', rfl⟩ : ∃ n', n = n' + (kx + 1) := ⟨n - (kx + 1), by omega⟩
      refine r1 post n' q (by omega) ?_
      exact ih φ' (by omega) u2 v2 r4 (q + (kx + 1)) n' post (by omega) (by omega) (fun u' v' hE hY => hc u' v' hE (fun postY hP => by
        obtain ⟨m, hm⟩ := hY postY hP
        exact ⟨m + 1, r2 postY m hm⟩))
    rcases hS with hS | hS | hS
    · exact go (step_A ht hyp hS)
    · exact go (step_B ht hyp hS)
    · obtain ⟨n', rfl⟩ : ∃ n', n = n' + 1 := ⟨n - 1, by omega⟩
      exact end_X hS (hc u v hS (fun postY hP => ⟨1, end_Y (n := 0) hS hP⟩))
end
end
section
section
theorem x_need {o : Nat} {q : Int32 → Prop} (ho : o < 20) (K : q (nI (ct_mn o))) : wpX_partsNeeded q (nI o) := by
  by_cases c0 : o = 0
  · subst c0
    exact (br_f (by decide) (br_f (by decide) (br_t rfl K)))
  by_cases c1 : o = 1
  · subst c1
    exact (br_f (by decide) (br_f (by decide) (br_f (by decide) (br_t rfl K))))
  by_cases c2 : o = 2
  · subst c2
    exact (br_f (by decide) (br_f (by decide) (br_f (by decide) (br_f (by decide) (br_t rfl K)))))
  by_cases c3 : o = 3
  · subst c3
    exact (br_f (by decide) (br_f (by decide) (br_f (by decide) (br_f (by decide) (br_f (by decide) (br_t rfl K))))))
  by_cases c4 : o = 4
  · subst c4
    exact (br_f (by decide) (br_f (by decide) (br_f (by decide) (br_f (by decide) (br_f (by decide) (br_f (by decide) (br_t rfl K)))))))
  by_cases c5 : o = 5
  · subst c5
    exact (br_f (by decide) (br_f (by decide) (br_f (by decide) (br_f (by decide) (br_f (by decide) (br_f (by decide) (br_f (by decide) (br_t rfl K))))))))
  by_cases c6 : o = 6
  · subst c6
    exact (br_f (by decide) (br_f (by decide) (br_f (by decide) (br_f (by decide) (br_f (by decide) (br_f (by decide) (br_f (by decide) (br_f (by decide) (br_t rfl K)))))))))
  by_cases c7 : o = 7
  · subst c7
    exact (br_f (by decide) (br_f (by decide) (br_f (by decide) (br_f (by decide) (br_f (by decide) (br_f (by decide) (br_f (by decide) (br_f (by decide) (br_f (by decide) (br_t rfl K))))))))))
  by_cases c8 : o = 8
  · subst c8
    exact (br_f (by decide) (br_f (by decide) (br_f (by decide) (br_f (by decide) (br_f (by decide) (br_f (by decide) (br_f (by decide) (br_f (by decide) (br_f (by decide) (br_f (by decide) (br_t rfl K)))))))))))
  by_cases c9 : o = 9
  · subst c9
    exact (br_f (by decide) (br_f (by decide) (br_f (by decide) (br_f (by decide) (br_f (by decide) (br_f (by decide) (br_f (by decide) (br_f (by decide) (br_f (by decide) (br_f (by decide) (br_f (by decide) (br_t rfl K))))))))))))
  by_cases c10 : o = 10
  · subst c10
    exact (br_f (by decide) (br_f (by decide) (br_f (by decide) (br_f (by decide) (br_f (by decide) (br_f (by decide) (br_f (by decide) (br_f (by decide) (br_f (by decide) (br_f (by decide) (br_f (by decide) (br_f (by decide) (br_t rfl K)))))))))))))
  by_cases c11 : o = 11
  · subst c11
    exact (br_f (by decide) (br_f (by decide) (br_f (by decide) (br_f (by decide) (br_f (by decide) (br_f (by decide) (br_f (by decide) (br_f (by decide) (br_f (by decide) (br_f (by decide) (br_f (by decide) (br_f (by decide) (br_f (by decide) (br_t rfl K))))))))))))))
  by_cases c12 : o = 12
  · subst c12
    exact (br_f (by decide) (br_f (by decide) (br_f (by decide) (br_f (by decide) (br_f (by decide) (br_f (by decide) (br_f (by decide) (br_f (by decide) (br_f (by decide) (br_f (by decide) (br_f (by decide) (br_f (by decide) (br_f (by decide) (br_f (by decide) (br_t rfl K)))))))))))))))
  by_cases c13 : o = 13
  · subst c13
    exact (br_f (by decide) (br_f (by decide) (br_f (by decide) (br_f (by decide) (br_f (by decide) (br_f (by decide) (br_f (by decide) (br_f (by decide) (br_f (by decide) (br_f (by decide) (br_f (by decide) (br_f (by decide) (br_f (by decide) (br_f (by decide) (br_f (by decide) (br_t rfl K))))))))))))))))
  by_cases c14 : o = 14
  · subst c14
    exact (br_f (by decide) (br_f (by decide) (br_f (by decide) (br_f (by decide) (br_f (by decide) (br_f (by decide) (br_f (by decide) (br_f (by decide) (br_f (by decide) (br_f (by decide) (br_f (by decide) (br_f (by decide) (br_f (by decide) (br_f (by decide) (br_f (by decide) (br_f (by decide) (br_t rfl K)))))))))))))))))
  by_cases c15 : o = 15
  · subst c15
    exact (br_f (by decide) (br_f (by decide) (br_f (by decide) (br_f (by decide) (br_f (by decide) (br_f (by decide) (br_f (by decide) (br_f (by decide) (br_f (by decide) (br_f (by decide) (br_f (by decide) (br_f (by decide) (br_f (by decide) (br_f (by decide) (br_f (by decide) (br_f (by decide) (br_f (by decide) (br_t rfl K))))))))))))))))))
  by_cases c16 : o = 16
  · subst c16
    exact (br_f (by decide) (br_f (by decide) (br_f (by decide) (br_f (by decide) (br_f (by decide) (br_f (by decide) (br_f (by decide) (br_f (by decide) (br_f (by decide) (br_f (by decide) (br_f (by decide) (br_f (by decide) (br_f (by decide) (br_f (by decide) (br_f (by decide) (br_f (by decide) (br_f (by decide) (br_f (by decide) (br_t rfl K)))))))))))))))))))
  by_cases c17 : o = 17
  · subst c17
    exact (br_f (by decide) (br_f (by decide) (br_f (by decide) (br_f (by decide) (br_f (by decide) (br_f (by decide) (br_f (by decide) (br_f (by decide) (br_f (by decide) (br_f (by decide) (br_f (by decide) (br_f (by decide) (br_f (by decide) (br_f (by decide) (br_f (by decide) (br_f (by decide) (br_f (by decide) (br_f (by decide) (br_f (by decide) (br_t rfl K))))))))))))))))))))
  by_cases c18 : o = 18
  · subst c18
    exact (br_f (by decide) (br_f (by decide) (br_f (by decide) (br_f (by decide) (br_f (by decide) (br_f (by decide) (br_f (by decide) (br_f (by decide) (br_f (by decide) (br_f (by decide) (br_f (by decide) (br_f (by decide) (br_f (by decide) (br_f (by decide) (br_f (by decide) (br_f (by decide) (br_f (by decide) (br_f (by decide) (br_f (by decide) (br_f (by decide) (br_t rfl K)))))))))))))))))))))
  by_cases c19 : o = 19
  · subst c19
    exact (br_f (by decide) (br_f (by decide) (br_f (by decide) (br_f (by decide) (br_f (by decide) (br_f (by decide) (br_f (by decide) (br_f (by decide) (br_f (by decide) (br_f (by decide) (br_f (by decide) (br_f (by decide) (br_f (by decide) (br_f (by decide) (br_f (by decide) (br_f (by decide) (br_f (by decide) (br_f (by decide) (br_f (by decide) (br_f (by decide) (br_f (by decide) (br_t rfl K))))))))))))))))))))))
  · omega
theorem x_allow {o : Nat} {q : Int32 → Prop} (ho : o < 20) (K : q (nI (ct_mx o))) : wpX_partsAllowed q (nI o) := by
  by_cases c0 : o = 0
  · subst c0
    exact (br_t (by decide) (x_need (by decide) K))
  by_cases c1 : o = 1
  · subst c1
    exact (br_t (by decide) (x_need (by decide) K))
  by_cases c2 : o = 2
  · subst c2
    exact (br_t (by decide) (x_need (by decide) K))
  by_cases c3 : o = 3
  · subst c3
    exact (br_t (by decide) (x_need (by decide) K))
  by_cases c4 : o = 4
  · subst c4
    exact (br_t (by decide) (x_need (by decide) K))
  by_cases c5 : o = 5
  · subst c5
    exact (br_t (by decide) (x_need (by decide) K))
  by_cases c6 : o = 6
  · subst c6
    exact (br_f (by decide) (br_f (by decide) (br_t rfl K)))
  by_cases c7 : o = 7
  · subst c7
    exact (br_f (by decide) (br_f (by decide) (br_f (by decide) (br_t rfl K))))
  by_cases c8 : o = 8
  · subst c8
    exact (br_f (by decide) (br_f (by decide) (br_f (by decide) (br_f (by decide) (br_t rfl K)))))
  by_cases c9 : o = 9
  · subst c9
    exact (br_f (by decide) (br_f (by decide) (br_f (by decide) (br_f (by decide) (br_f (by decide) (br_t rfl (x_need (by decide) K)))))))
  by_cases c10 : o = 10
  · subst c10
    exact (br_f (by decide) (br_f (by decide) (br_f (by decide) (br_f (by decide) (br_f (by decide) (br_f (by decide) (br_t rfl K)))))))
  by_cases c11 : o = 11
  · subst c11
    exact (br_f (by decide) (br_f (by decide) (br_f (by decide) (br_f (by decide) (br_f (by decide) (br_f (by decide) (br_f (by decide) (br_t rfl K))))))))
  by_cases c12 : o = 12
  · subst c12
    exact (br_f (by decide) (br_t (by decide) (x_need (by decide) K)))
  by_cases c13 : o = 13
  · subst c13
    exact (br_f (by decide) (br_t (by decide) (x_need (by decide) K)))
  by_cases c14 : o = 14
  · subst c14
    exact (br_f (by decide) (br_t (by decide) (x_need (by decide) K)))
  by_cases c15 : o = 15
  · subst c15
    exact (br_f (by decide) (br_t (by decide) (x_need (by decide) K)))
  by_cases c16 : o = 16
  · subst c16
    exact (br_f (by decide) (br_t (by decide) (x_need (by decide) K)))
  by_cases c17 : o = 17
  · subst c17
    exact (br_f (by decide) (br_t (by decide) (x_need (by decide) K)))
  by_cases c18 : o = 18
  · subst c18
    exact (br_f (by decide) (br_t (by decide) (x_need (by decide) K)))
  by_cases c19 : o = 19
  · subst c19
    exact (br_f (by decide) (br_t (by decide) (x_need (by decide) K)))
  · omega
def cm_ (o : Nat) : Nat := if ct_mx o = 96 then 1000 else ct_mx o
theorem y_most {o : Nat} {q : Int32 → Prop} {u : SY} (ho : o < 20) (K : q (nI (cm_ o))) : wpY_most q u (nI o) := by
  by_cases c0 : o = 0
  · subst c0
    exact (br_t (by decide) K)
  by_cases c1 : o = 1
  · subst c1
    exact (br_t (by decide) K)
  by_cases c2 : o = 2
  · subst c2
    exact (br_t (by decide) K)
  by_cases c3 : o = 3
  · subst c3
    exact (br_t (by decide) K)
  by_cases c4 : o = 4
  · subst c4
    exact (br_t (by decide) K)
  by_cases c5 : o = 5
  · subst c5
    exact (br_f (by decide) (br_f (by decide) (br_t rfl K)))
  by_cases c6 : o = 6
  · subst c6
    exact (br_f (by decide) (br_f (by decide) (br_f (by decide) (br_t rfl K))))
  by_cases c7 : o = 7
  · subst c7
    exact (br_f (by decide) (br_f (by decide) (br_f (by decide) (br_f (by decide) (br_t rfl K)))))
  by_cases c8 : o = 8
  · subst c8
    exact (br_f (by decide) (br_f (by decide) (br_f (by decide) (br_f (by decide) (br_f (by decide) (br_t rfl K))))))
  by_cases c9 : o = 9
  · subst c9
    exact (br_f (by decide) (br_f (by decide) (br_f (by decide) (br_f (by decide) (br_f (by decide) (br_f (by decide) (br_f (by decide) (br_f (by decide) (br_f (by decide) K)))))))))
  by_cases c10 : o = 10
  · subst c10
    exact (br_f (by decide) (br_f (by decide) (br_f (by decide) (br_f (by decide) (br_f (by decide) (br_f (by decide) (br_t rfl K)))))))
  by_cases c11 : o = 11
  · subst c11
    exact (br_f (by decide) (br_f (by decide) (br_f (by decide) (br_f (by decide) (br_f (by decide) (br_f (by decide) (br_f (by decide) (br_t rfl K))))))))
  by_cases c12 : o = 12
  · subst c12
    exact (br_f (by decide) (br_f (by decide) (br_f (by decide) (br_f (by decide) (br_f (by decide) (br_f (by decide) (br_f (by decide) (br_f (by decide) (br_f (by decide) K)))))))))
  by_cases c13 : o = 13
  · subst c13
    exact (br_f (by decide) (br_f (by decide) (br_f (by decide) (br_f (by decide) (br_f (by decide) (br_f (by decide) (br_f (by decide) (br_f (by decide) (br_f (by decide) K)))))))))
  by_cases c14 : o = 14
  · subst c14
    exact (br_f (by decide) (br_f (by decide) (br_f (by decide) (br_f (by decide) (br_f (by decide) (br_f (by decide) (br_f (by decide) (br_f (by decide) (br_f (by decide) K)))))))))
  by_cases c15 : o = 15
  · subst c15
    exact (br_f (by decide) (br_f (by decide) (br_f (by decide) (br_f (by decide) (br_f (by decide) (br_f (by decide) (br_f (by decide) (br_f (by decide) (br_f (by decide) K)))))))))
  by_cases c16 : o = 16
  · subst c16
    exact (br_f (by decide) (br_t rfl K))
  by_cases c17 : o = 17
  · subst c17
    exact (br_f (by decide) (br_f (by decide) (br_f (by decide) (br_f (by decide) (br_f (by decide) (br_f (by decide) (br_f (by decide) (br_f (by decide) (br_f (by decide) K)))))))))
  by_cases c18 : o = 18
  · subst c18
    exact (br_f (by decide) (br_f (by decide) (br_f (by decide) (br_f (by decide) (br_f (by decide) (br_f (by decide) (br_f (by decide) (br_f (by decide) (br_f (by decide) K)))))))))
  by_cases c19 : o = 19
  · subst c19
    exact (br_f (by decide) (br_f (by decide) (br_f (by decide) (br_f (by decide) (br_f (by decide) (br_f (by decide) (br_f (by decide) (br_f (by decide) (br_t rfl K)))))))))
  · omega
theorem y_few {o : Nat} {q : Int32 → Prop} {u : SY} (ho : o < 20) (K : q (nI (ct_mn o))) : wpY_fewest q u (nI o) := by
  by_cases c0 : o = 0
  · subst c0
    exact (br_f (by decide) (br_f (by decide) (br_f (by decide) (br_f (by decide) (br_f (by decide) (y_most (u := u) (by decide) K))))))
  by_cases c1 : o = 1
  · subst c1
    exact (br_f (by decide) (br_f (by decide) (br_f (by decide) (br_f (by decide) (br_f (by decide) (y_most (u := u) (by decide) K))))))
  by_cases c2 : o = 2
  · subst c2
    exact (br_f (by decide) (br_f (by decide) (br_f (by decide) (br_f (by decide) (br_f (by decide) (y_most (u := u) (by decide) K))))))
  by_cases c3 : o = 3
  · subst c3
    exact (br_f (by decide) (br_f (by decide) (br_f (by decide) (br_f (by decide) (br_f (by decide) (y_most (u := u) (by decide) K))))))
  by_cases c4 : o = 4
  · subst c4
    exact (br_f (by decide) (br_f (by decide) (br_f (by decide) (br_f (by decide) (br_f (by decide) (y_most (u := u) (by decide) K))))))
  by_cases c5 : o = 5
  · subst c5
    exact (br_f (by decide) (br_f (by decide) (br_f (by decide) (br_f (by decide) (br_f (by decide) (y_most (u := u) (by decide) K))))))
  by_cases c6 : o = 6
  · subst c6
    exact (br_t rfl K)
  by_cases c7 : o = 7
  · subst c7
    exact (br_f (by decide) (br_f (by decide) (br_t rfl K)))
  by_cases c8 : o = 8
  · subst c8
    exact (br_f (by decide) (br_f (by decide) (br_f (by decide) (br_t rfl K))))
  by_cases c9 : o = 9
  · subst c9
    exact (br_f (by decide) (br_f (by decide) (br_f (by decide) (br_f (by decide) (br_f (by decide) (y_most (u := u) (by decide) K))))))
  by_cases c10 : o = 10
  · subst c10
    exact (br_f (by decide) (br_t rfl K))
  by_cases c11 : o = 11
  · subst c11
    exact (br_f (by decide) (br_f (by decide) (br_f (by decide) (br_f (by decide) (br_t rfl K)))))
  by_cases c12 : o = 12
  · subst c12
    exact (br_f (by decide) (br_f (by decide) (br_f (by decide) (br_f (by decide) (br_f (by decide) (y_most (u := u) (by decide) K))))))
  by_cases c13 : o = 13
  · subst c13
    exact (br_f (by decide) (br_f (by decide) (br_f (by decide) (br_f (by decide) (br_f (by decide) (y_most (u := u) (by decide) K))))))
  by_cases c14 : o = 14
  · subst c14
    exact (br_f (by decide) (br_f (by decide) (br_f (by decide) (br_f (by decide) (br_f (by decide) (y_most (u := u) (by decide) K))))))
  by_cases c15 : o = 15
  · subst c15
    exact (br_f (by decide) (br_f (by decide) (br_f (by decide) (br_f (by decide) (br_f (by decide) (y_most (u := u) (by decide) K))))))
  by_cases c16 : o = 16
  · subst c16
    exact (br_f (by decide) (br_f (by decide) (br_f (by decide) (br_f (by decide) (br_f (by decide) (y_most (u := u) (by decide) K))))))
  by_cases c17 : o = 17
  · subst c17
    exact (br_f (by decide) (br_f (by decide) (br_f (by decide) (br_f (by decide) (br_f (by decide) (y_most (u := u) (by decide) K))))))
  by_cases c18 : o = 18
  · subst c18
    exact (br_f (by decide) (br_f (by decide) (br_f (by decide) (br_f (by decide) (br_f (by decide) (y_most (u := u) (by decide) K))))))
  by_cases c19 : o = 19
  · subst c19
    exact (br_f (by decide) (br_f (by decide) (br_f (by decide) (br_f (by decide) (br_f (by decide) (y_most (u := u) (by decide) K))))))
  · omega
end
section
variable {xd xg xN xL xF xV xC xs ph : Int32} {cr : Int64} {ec en ft bt pr : Int32} {op a b xp fi xl nx xo fn fe vn vo : Nat → Int32} {vv : Nat → Int64} {xst xf xr xh xc fN fX fS fT : Nat → Int32} {fL pv : Nat → Int64}
/-- a new node, X -/
theorem x_a26 {post : SX → Prop} {N : Nat} {ov av bv : Int32} (hN : N < 96) (K : post (xd, xg, (nI (N + 1)), xL, xF, xV, xC, xs, ph, cr, ec, en, ft, bt, pr, (upd op N ov), (upd a N av), (upd b N bv), (upd xp N 0), (upd fi N (-1)), xl, (upd nx N (-1)), xo, fn, fe, vn, vo, vv, xst, xf, xr, xh, xc, fN, fX, fS, fT, fL, pv)) : wX_addNode_26 post ov av bv xd xg (nI N) xL xF xV xC xs ph cr ec en ft bt pr op a b xp fi xl nx xo fn fe vn vo vv xst xf xr xh xc fN fX fS fT fL pv := by
  have e := nc_ (n := N) (by omega)
  have w := vi_ (n := N) (N := 96) hN (by omega)
  exact ⟨w, nm_r (e' := upd op N ov) (by rw [e]) ⟨w, nm_r (e' := upd a N av) (by rw [e]) ⟨w, nm_r (e' := upd b N bv) (by rw [e]) ⟨w, nm_r (e' := upd xp N 0) (by rw [e]) ⟨w, nm_r (e' := upd fi N (-1)) (by rw [e]) ⟨w, nm_r (e' := upd nx N (-1)) (by rw [e]) (nm_r (nI_1 N) K)⟩⟩⟩⟩⟩⟩
theorem x_add0 {post : SX → Prop} {N : Nat} {ov av bv : Int32} (hN : N < 96) (K : post (xd, xg, (nI (N + 1)), (nI 0), xF, xV, xC, xs, ph, cr, ec, en, ft, bt, pr, (upd op N ov), (upd a N av), (upd b N bv), (upd xp N 0), (upd fi N (-1)), xl, (upd nx N (-1)), xo, fn, fe, vn, vo, vv, xst, xf, xr, xh, xc, fN, fX, fS, fT, fL, pv)) : wpX_addNode post (xd, xg, (nI N), (nI 0), xF, xV, xC, xs, ph, cr, ec, en, ft, bt, pr, op, a, b, xp, fi, xl, nx, xo, fn, fe, vn, vo, vv, xst, xf, xr, xh, xc, fN, fX, fS, fT, fL, pv) ov av bv := br_t (by decide) (x_a26 hN K)
theorem x_add1 {post : SX → Prop} {N l m p z : Nat} {ov av bv : Int32} (hN : N < 96) (hl : l < 16) (ho : xo l = nI m) (hm : m < 96) (hf0 : p = 0 → fi m = -1) (hf1 : 0 < p → ∃ j, j < 96 ∧ fi m = nI j) (hz : 0 < p → xl m = nI z ∧ z < 96)
    (K : post (xd, xg, (nI (N + 1)), (nI (l + 1)), xF, xV, xC, xs, ph, cr, ec, en, ft, bt, pr, (upd op N ov), (upd a N av), (upd b N bv), (upd xp N 0), (upd (if p = 0 then upd fi m (nI N) else fi) N (-1)), (upd xl m (nI N)), (upd (if p = 0 then nx else upd nx z (nI N)) N (-1)), xo, fn, fe, vn, vo, vv, xst, xf, xr, xh, xc, fN, fX, fS, fT, fL, pv)) : wpX_addNode post (xd, xg, (nI N), (nI (l + 1)), xF, xV, xC, xs, ph, cr, ec, en, ft, bt, pr, op, a, b, xp, fi, xl, nx, xo, fn, fe, vn, vo, vv, xst, xf, xr, xh, xc, fN, fX, fS, fT, fL, pv) ov av bv := by
  have el := nc_ (n := l) (by omega)
  have em := nc_ (n := m) (by omega)
  have wm := vi_ (n := m) (N := 96) hm (by omega)
  refine br_f (nI_nle (by omega) (by omega)) ?_
  rw [nI_pred, el, ho]
  refine ⟨vi_ hl (by omega), wm, ?_⟩
  rw [em]
  rcases Nat.eq_zero_or_pos p with h0 | h0
  · rw [if_pos h0, if_pos h0] at K
    exact br_t (hf0 h0) ⟨wm, nm_r (e' := upd fi m (nI N)) rfl ⟨wm, nm_r (e' := upd xl m (nI N)) rfl (x_a26 hN K)⟩⟩
  · rw [if_neg (by omega), if_neg (by omega)] at K
    obtain ⟨z1, z2⟩ := hz h0
    have ez := nc_ (n := z) (by omega)
    refine br_f ?_ ⟨wm, ?_, nm_r (e' := upd nx z (nI N)) (by rw [z1, ez]) ⟨wm, nm_r (e' := upd xl m (nI N)) rfl (x_a26 hN K)⟩⟩
    · obtain ⟨j, j1, j2⟩ := hf1 h0
      rw [j2]
      intro h
      have h2 := nI_pos' (n := j) (by omega)
      rw [h] at h2
      exact absurd h2 (by decide)
    · rw [z1]; exact vi_ z2 (by omega)
theorem x_cnt0 {post : SX → Prop} (K : post (xd, xg, xN, (nI 0), xF, xV, xC, xs, ph, cr, ec, en, ft, bt, pr, op, a, b, xp, fi, xl, nx, xo, fn, fe, vn, vo, vv, xst, xf, xr, xh, xc, fN, fX, fS, fT, fL, pv)) : wpX_countPart post (xd, xg, xN, (nI 0), xF, xV, xC, xs, ph, cr, ec, en, ft, bt, pr, op, a, b, xp, fi, xl, nx, xo, fn, fe, vn, vo, vv, xst, xf, xr, xh, xc, fN, fX, fS, fT, fL, pv) := br_t (by decide) K
theorem x_cnt1 {post : SX → Prop} {l m p : Nat} (hl : l < 16) (ho : xo l = nI m) (hm : m < 96) (hp : xp m = nI p) (K : post (xd, xg, xN, (nI (l + 1)), xF, xV, xC, xs, ph, cr, ec, en, ft, bt, pr, op, a, b, (upd xp m (nI (p + 1))), fi, xl, nx, xo, fn, fe, vn, vo, vv, xst, xf, xr, xh, xc, fN, fX, fS, fT, fL, pv)) : wpX_countPart post (xd, xg, xN, (nI (l + 1)), xF, xV, xC, xs, ph, cr, ec, en, ft, bt, pr, op, a, b, xp, fi, xl, nx, xo, fn, fe, vn, vo, vv, xst, xf, xr, xh, xc, fN, fX, fS, fT, fL, pv) := by
  have el := nc_ (n := l) (by omega)
  have em := nc_ (n := m) (by omega)
  have wm := vi_ (n := m) (N := 96) hm (by omega)
  refine br_f (nI_nle (by omega) (by omega)) ?_
  rw [nI_pred, el, ho, em, hp]
  exact ⟨vi_ hl (by omega), wm, wm, nm_r (e' := upd xp m (nI (p + 1))) (by rw [nI_1]) K⟩
/-- room for a node: X -/
theorem x_room0 {q : Int32 → Prop} {N L : Nat} (h : (0 < N ∧ L = 0) ∨ 96 ≤ N) (hN : N ≤ 96) (hL : L < 1000) (K : q 0) : wpX_hasRoom q (xd, xg, (nI N), (nI L), xF, xV, xC, xs, ph, cr, ec, en, ft, bt, pr, op, a, b, xp, fi, xl, nx, xo, fn, fe, vn, vo, vv, xst, xf, xr, xh, xc, fN, fX, fS, fT, fL, pv) := by
  unfold wpX_hasRoom
  dsimp only
  by_cases h1 : 0 < N ∧ L = 0
  · obtain ⟨h2, rfl⟩ := h1
    exact br_f (nI_nle h2 (by omega)) (br_t rfl (br_f (by decide) K))
  · have h3 : 96 ≤ N := h.resolve_left h1
    refine br_f (nI_nle (by omega) (by omega)) (br_f (nI_ne0 (by omega) (by omega)) (br_t rfl (br_f (nI_nlt (b := 96) h3 (by omega)) K)))
theorem x_room1 {q : Int32 → Prop} (K : q 1) : wpX_hasRoom q (xd, xg, (nI 0), (nI 0), xF, xV, xC, xs, ph, cr, ec, en, ft, bt, pr, op, a, b, xp, fi, xl, nx, xo, fn, fe, vn, vo, vv, xst, xf, xr, xh, xc, fN, fX, fS, fT, fL, pv) := by
  unfold wpX_hasRoom
  dsimp only
  exact br_t (by decide) (br_t rfl (br_t (by decide) (br_t rfl K)))
theorem x_room2 {q : Int32 → Prop} {N l m o p : Nat} (hN0 : 0 < N) (hN : N < 96) (hl : l < 16) (ho : xo l = nI m) (hm : m < 96) (hp : xp m = nI p) (hp9 : p < 1000) (hop : op m = nI o) (ho2 : o < 20) (K1 : ct_mx o ≤ p → q 0) (K2 : p < ct_mx o → q 1) : wpX_hasRoom q (xd, xg, (nI N), (nI (l + 1)), xF, xV, xC, xs, ph, cr, ec, en, ft, bt, pr, op, a, b, xp, fi, xl, nx, xo, fn, fe, vn, vo, vv, xst, xf, xr, xh, xc, fN, fX, fS, fT, fL, pv) := by
  have el := nc_ (n := l) (by omega)
  have em := nc_ (n := m) (by omega)
  have wm := vi_ (n := m) (N := 96) hm (by omega)
  have hx : ct_mx o ≤ 96 := by unfold ct_mx; split <;> (try split) <;> (try split) <;> (try split) <;> (try split) <;> omega
  unfold wpX_hasRoom
  dsimp only
  refine br_f (nI_nle (by omega) (by omega)) (br_f (nI_ne0 (by omega) (by omega)) (br_t rfl (br_t (nI_lt (b := 96) hN (by omega)) (br_f (nI_ne0 (by omega) (by omega)) ?_))))
  rw [nI_pred, el, ho]
  refine ⟨vi_ hl (by omega), nm_e ⟨wm, wm, ?_⟩⟩
  rw [em, hop, hp]
  exact x_allow ho2 (pk_le _ _ K1 K2)
end
section
variable {yd yg yN yi yo yV yF yC ys yft ybt res yer ypl ypr rn hs : Int32} {gv gt : Int64} {op a b pa fi nx yp wn wu gn ge : Nat → Int32} {wv : Nat → Int64} {yl ya ye : Nat → Int32} {yk : Nat → Int64} {yt yc yst yf yr : Nat → Int32} {ou : Nat → Int64}
theorem y_room0 {q : Int32 → Prop} {N : Nat} (h : (0 < N ∧ yi = -1) ∨ (96 ≤ N ∧ ¬ yi < 0)) (hN : N ≤ 96) (K : q 0) : wpY_room q (yd, yg, (nI N), yi, yo, yV, yF, yC, ys, yft, ybt, res, yer, ypl, ypr, rn, hs, gv, gt, op, a, b, pa, fi, nx, yp, wn, wu, gn, ge, wv, yl, ya, ye, yk, yt, yc, yst, yf, yr, ou) := by
  rcases h with ⟨h1, h2⟩ | ⟨h1, h2⟩
  · subst h2
    exact br_f (nI_nle h1 (by omega)) (br_f (by decide) (br_f (by decide) K))
  · exact br_f (nI_nle (by omega) (by omega)) (br_t (Int32.not_lt.mp h2) (br_t rfl (br_t (nI_le (a := 96) h1 (by omega)) K)))
theorem y_room1 {q : Int32 → Prop} (K : q 1) : wpY_room q (yd, yg, (nI 0), (-1), yo, yV, yF, yC, ys, yft, ybt, res, yer, ypl, ypr, rn, hs, gv, gt, op, a, b, pa, fi, nx, yp, wn, wu, gn, ge, wv, yl, ya, ye, yk, yt, yc, yst, yf, yr, ou) := br_t (by decide) (br_t rfl (br_f (by decide) (br_t (by decide) K)))
theorem y_room2 {q : Int32 → Prop} {N m o p : Nat} (hN0 : 0 < N) (hN : N < 96) (hm : m < 96) (hp : yp m = nI p) (hp9 : p < 96) (hop : op m = nI o) (ho2 : o < 20) (K1 : ct_mx o ≤ p → q 0) (K2 : p < ct_mx o → q 1) : wpY_room q (yd, yg, (nI N), (nI m), yo, yV, yF, yC, ys, yft, ybt, res, yer, ypl, ypr, rn, hs, gv, gt, op, a, b, pa, fi, nx, yp, wn, wu, gn, ge, wv, yl, ya, ye, yk, yt, yc, yst, yf, yr, ou) := by
  have em := nc_ (n := m) (by omega)
  have wm := vi_ (n := m) (N := 96) hm (by omega)
  have hc : cm_ o < 2000 := by unfold cm_ ct_mx; split <;> (try split) <;> (try split) <;> (try split) <;> (try split) <;> (try split) <;> omega
  refine br_f (nI_nle (by omega) (by omega)) (br_t (nI_pos' (by omega)) (br_t rfl (br_f (nI_ge (b := 96) hN (by omega)) (br_f (nI_pos (by omega)) ⟨wm, wm, ?_⟩))))
  rw [em, hop, hp]
  refine y_most ho2 (pk_le _ _ (fun h => K1 ?_) (fun h => K2 ?_))
  · unfold cm_ at h; split at h <;> omega
  · unfold cm_ at h; split at h <;> omega
theorem y_152 {post : SY → Prop} {N m p : Nat} (hm : m < 96) (hp : yp m = nI p) (K : post (yd, yg, (nI (N + 1)), (nI m), yo, yV, yF, yC, ys, yft, ybt, res, yer, ypl, ypr, rn, hs, gv, gt, op, a, b, pa, fi, nx, (upd yp m (nI (p + 1))), wn, wu, gn, ge, wv, yl, ya, ye, yk, yt, yc, yst, yf, yr, ou)) : wY_add_152 post yd yg (nI N) (nI m) yo yV yF yC ys yft ybt res yer ypl ypr rn hs gv gt op a b pa fi nx yp wn wu gn ge wv yl ya ye yk yt yc yst yf yr ou := by
  have em := nc_ (n := m) (by omega)
  have wm := vi_ (n := m) (N := 96) hm (by omega)
  exact ⟨wm, wm, nm_r (e' := upd yp m (nI (p + 1))) (by rw [em, hp, nI_1]) (nm_r (nI_1 N) K)⟩
theorem y_119 {post : SY → Prop} {N c : Nat} {kd : Nat → Nat} (hk : ∀ i, i ≤ c → kd i < 96) (hn : ∀ i, i < c → nx (kd i) = nI (kd (i + 1))) (hl : nx (kd c) = -1) (K : wY_add_152 post yd yg (nI N) yi yo yV yF yC ys yft ybt res yer ypl ypr rn hs gv gt op a b pa fi (upd nx (kd c) (nI N)) yp wn wu gn ge wv yl ya ye yk yt yc yst yf yr ou) : ∀ d i, i + d = c → ∀ f, wY_add_119 post yd yg (nI N) yi yo yV yF yC ys yft ybt res yer ypl ypr rn hs gv gt op a b pa fi nx yp wn wu gn ge wv yl ya ye yk yt yc yst yf yr ou (f + d + 1) (nI (kd i)) := by
  intro d
  induction d with
  | zero =>
    intro i hi f
    obtain rfl : i = c := by omega
    have e := nc_ (n := kd i) (by have := hk i (Nat.le_refl _); omega)
    have w := vi_ (n := kd i) (N := 96) (hk i (Nat.le_refl _)) (by omega)
    exact ⟨w, br_t (by rw [e, hl]; decide) ⟨w, nm_r (e' := upd nx (kd i) (nI N)) (by rw [e]) K⟩⟩
  | succ d ih =>
    intro i hi f
    have e := nc_ (n := kd i) (by have := hk i (by omega); omega)
    have w := vi_ (n := kd i) (N := 96) (hk i (by omega)) (by omega)
    refine ⟨w, br_f ?_ ⟨w, nm_r (e' := nI (kd (i + 1))) (by rw [e]; exact hn i (by omega)) ?_⟩⟩
    · rw [e, hn i (by omega)]; exact nI_pos (by have := hk (i + 1) (by omega); omega)
    · exact ih (i + 1) (by omega) f
theorem y_add0 {post : SY → Prop} {N : Nat} {ov av bv : Int32} (hN : N < 96) (K : post (yd, yg, (nI (N + 1)), (-1), yo, yV, yF, yC, ys, yft, ybt, res, yer, ypl, ypr, rn, hs, gv, gt, (upd op N ov), (upd a N av), (upd b N bv), (upd pa N (-1)), (upd fi N (-1)), (upd nx N (-1)), (upd yp N 0), wn, wu, gn, ge, wv, yl, ya, ye, yk, yt, yc, yst, yf, yr, ou)) : wpY_add post (yd, yg, (nI N), (-1), yo, yV, yF, yC, ys, yft, ybt, res, yer, ypl, ypr, rn, hs, gv, gt, op, a, b, pa, fi, nx, yp, wn, wu, gn, ge, wv, yl, ya, ye, yk, yt, yc, yst, yf, yr, ou) ov av bv := by
  have e := nc_ (n := N) (by omega)
  have w := vi_ (n := N) (N := 96) hN (by omega)
  exact ⟨w, nm_r (e' := upd op N ov) (by rw [e]) ⟨w, nm_r (e' := upd a N av) (by rw [e]) ⟨w, nm_r (e' := upd b N bv) (by rw [e]) ⟨w, nm_r (e' := upd pa N (-1)) (by rw [e]) ⟨w, nm_r (e' := upd fi N (-1)) (by rw [e]) ⟨w, nm_r (e' := upd nx N (-1)) (by rw [e]) ⟨w, nm_r (e' := upd yp N 0) (by rw [e]) (br_t (by decide) (nm_r (nI_1 N) K))⟩⟩⟩⟩⟩⟩⟩
theorem y_add1 {post : SY → Prop} {N m p : Nat} {kd : Nat → Nat} {ov av bv : Int32} (hN : N < 96) (hmN : m < N) (hp : yp m = nI p) (hf0 : p = 0 → fi m = -1) (hf1 : 0 < p → fi m = nI (kd 0)) (hk : ∀ i, i < p → kd i < N) (hn : ∀ i, i + 1 < p → nx (kd i) = nI (kd (i + 1))) (hl : 0 < p → nx (kd (p - 1)) = -1)
    (K : post (yd, yg, (nI (N + 1)), (nI m), yo, yV, yF, yC, ys, yft, ybt, res, yer, ypl, ypr, rn, hs, gv, gt, (upd op N ov), (upd a N av), (upd b N bv), (upd pa N (nI m)), (upd (if p = 0 then upd fi m (nI N) else fi) N (-1)), (upd (if p = 0 then nx else upd nx (kd (p - 1)) (nI N)) N (-1)), (upd (upd yp N 0) m (nI (p + 1))), wn, wu, gn, ge, wv, yl, ya, ye, yk, yt, yc, yst, yf, yr, ou)) : wpY_add post (yd, yg, (nI N), (nI m), yo, yV, yF, yC, ys, yft, ybt, res, yer, ypl, ypr, rn, hs, gv, gt, op, a, b, pa, fi, nx, yp, wn, wu, gn, ge, wv, yl, ya, ye, yk, yt, yc, yst, yf, yr, ou) ov av bv := by
  have e := nc_ (n := N) (by omega)
  have em := nc_ (n := m) (by omega)
  have w := vi_ (n := N) (N := 96) hN (by omega)
  have wm := vi_ (n := m) (N := 96) (by omega) (by omega)
  refine ⟨w, nm_r (e' := upd op N ov) (by rw [e]) ⟨w, nm_r (e' := upd a N av) (by rw [e]) ⟨w, nm_r (e' := upd b N bv) (by rw [e]) ⟨w, nm_r (e' := upd pa N (nI m)) (by rw [e]) ⟨w, nm_r (e' := upd fi N (-1)) (by rw [e]) ⟨w, nm_r (e' := upd nx N (-1)) (by rw [e]) ⟨w, nm_r (e' := upd yp N 0) (by rw [e]) (br_f (nI_pos (by omega)) ⟨wm, ?_⟩)⟩⟩⟩⟩⟩⟩⟩
  rw [em, pk_un (show m ≠ N by omega)]
  have yp' : upd yp N 0 m = nI p := (pk_un (by omega)).trans hp
  rcases Nat.eq_zero_or_pos p with h0 | h0
  · rw [if_pos h0, if_pos h0, up_comm (show m ≠ N by omega)] at K
    refine br_f (by rw [hf0 h0]; decide) ⟨wm, nm_r (e' := upd (upd fi N (-1)) m (nI N)) rfl ?_⟩
    exact y_152 (by omega) yp' K
  · rw [if_neg (show ¬ p = 0 by omega), if_neg (show ¬ p = 0 by omega), up_comm (show kd (p - 1) ≠ N by have := hk (p - 1) (by omega); omega)] at K
    refine br_t (by rw [hf1 h0]; exact nI_pos' (by have := hk 0 h0; omega)) ⟨wm, nm_r (e' := nI (kd 0)) (hf1 h0) ⟨0 + (p - 1) + 1, ?_⟩⟩
    refine y_119 (c := p - 1) (fun i hi => by have := hk i (by omega); omega) (fun i hi => ?_) ?_ (y_152 (by omega) yp' K) (p - 1) 0 (by omega) 0
    · rw [pk_un (by have := hk i (by omega); omega)]; exact hn i (by omega)
    · rw [pk_un (by have := hk (p - 1) (by omega); omega)]; exact hl h0
end
end
section
section
variable {xd xg xN xL xF xV xC xs ph : Int32} {cr : Int64} {ec en ft bt pr : Int32} {op a b xp fi xl nx xo fn fe vn vo : Nat → Int32} {vv : Nat → Int64} {xst xf xr xh xc fN fX fS fT : Nat → Int32} {fL pv : Nat → Int64}
/-- does list n make variable c -/
theorem x_makes {n o p : Nat} {oc : Nat → Nat} {c : Int32} (hn : n < 96) (ho : op n = nI o) (hoc : oc n = o) (ho2 : o ≤ 21) (hp : xp n = nI p) (hp9 : p < 1000) : (cb_mk oc a b n p c ∧ ∀ q : Int32 → Prop, q 1 → wpX_makesVariable q (xd, xg, xN, xL, xF, xV, xC, xs, ph, cr, ec, en, ft, bt, pr, op, a, b, xp, fi, xl, nx, xo, fn, fe, vn, vo, vv, xst, xf, xr, xh, xc, fN, fX, fS, fT, fL, pv) (nI n) c) ∨ (¬ cb_mk oc a b n p c ∧ ∀ q : Int32 → Prop, q 0 → wpX_makesVariable q (xd, xg, xN, xL, xF, xV, xC, xs, ph, cr, ec, en, ft, bt, pr, op, a, b, xp, fi, xl, nx, xo, fn, fe, vn, vo, vv, xst, xf, xr, xh, xc, fN, fX, fS, fT, fL, pv) (nI n) c) := by
  have e := nc_ (n := n) (by omega)
  have w := vi_ (n := n) (N := 96) hn (by omega)
  have ne : ∀ j, j < 30 → j ≠ o → ¬ op n = nI j := by
    intro j hj hjo e
    rw [ho] at e
    have := (nI_eq (by omega) (by omega)).mp e
    omega
  by_cases c10 : o = 10
  · have o10 : op n = 10 := by rw [ho, c10]; rfl
    by_cases h1 : c < a n
    · refine Or.inr ⟨fun h => ?_, fun q hq => ?_⟩
      · rcases h with h | h
        · omega
        · exact absurd h1 (Int32.not_lt.mpr h.2.1)
      · unfold wpX_makesVariable
        dsimp only
        rw [e]
        exact ⟨w, br_t o10 ⟨w, br_t h1 hq⟩⟩
    · by_cases h2 : a n + b n ≤ c
      · refine Or.inr ⟨fun h => ?_, fun q hq => ?_⟩
        · rcases h with h | h
          · omega
          · exact absurd h.2.2 (Int32.not_lt.mpr h2)
        · unfold wpX_makesVariable
          dsimp only
          rw [e]
          exact ⟨w, br_t o10 ⟨w, br_f h1 ⟨w, w, br_t h2 hq⟩⟩⟩
      · refine Or.inl ⟨Or.inr ⟨by omega, Int32.not_lt.mp h1, Int32.not_le.mp h2⟩, fun q hq => ?_⟩
        unfold wpX_makesVariable
        dsimp only
        rw [e]
        exact ⟨w, br_t o10 ⟨w, br_f h1 ⟨w, w, br_f h2 hq⟩⟩⟩
  · have n10 : ¬ op n = 10 := ne 10 (by omega) (by omega)
    by_cases c8 : o = 8
    · have o8 : op n = 8 := by rw [ho, c8]; rfl
      rcases Nat.eq_zero_or_pos p with h0 | h0
      · refine Or.inr ⟨fun h => ?_, fun q hq => ?_⟩
        · rcases h with h | h
          · omega
          · omega
        · unfold wpX_makesVariable
          dsimp only
          rw [e, hp, h0]
          exact ⟨w, br_f n10 ⟨w, br_t o8 ⟨w, br_t (by decide) hq⟩⟩⟩
      · by_cases h1 : a n = c
        · refine Or.inl ⟨Or.inl ⟨by omega, h0, h1⟩, fun q hq => ?_⟩
          unfold wpX_makesVariable
          dsimp only
          rw [e, hp]
          exact ⟨w, br_f n10 ⟨w, br_t o8 ⟨w, br_f (nI_nle h0 (by omega)) ⟨w, br_t h1 hq⟩⟩⟩⟩
        · refine Or.inr ⟨fun h => ?_, fun q hq => ?_⟩
          · rcases h with h | h
            · exact h1 h.2.2
            · omega
          · unfold wpX_makesVariable
            dsimp only
            rw [e, hp]
            exact ⟨w, br_f n10 ⟨w, br_t o8 ⟨w, br_f (nI_nle h0 (by omega)) ⟨w, br_f h1 hq⟩⟩⟩⟩
    · refine Or.inr ⟨fun h => ?_, fun q hq => ?_⟩
      · rcases h with h | h
        · omega
        · omega
      · unfold wpX_makesVariable
        dsimp only
        rw [e]
        exact ⟨w, br_f n10 ⟨w, br_f (ne 8 (by omega) (by omega)) hq⟩⟩
theorem x_sc {L : Nat} {st oc pc : Nat → Nat} {c : Int32} (hL : L ≤ 16) (hs : ∀ i, i < L → st i < 96 ∧ xo i = nI (st i) ∧ op (st i) = nI (oc (st i)) ∧ oc (st i) ≤ 21 ∧ xp (st i) = nI (cb_q L st pc i) ∧ cb_q L st pc i < 1000) : (cb_sc L st oc pc a b c ∧ ∀ q : Int32 → Prop, q 1 → wpX_inScope q (xd, xg, xN, (nI L), xF, xV, xC, xs, ph, cr, ec, en, ft, bt, pr, op, a, b, xp, fi, xl, nx, xo, fn, fe, vn, vo, vv, xst, xf, xr, xh, xc, fN, fX, fS, fT, fL, pv) c) ∨ (¬ cb_sc L st oc pc a b c ∧ ∀ q : Int32 → Prop, q 0 → wpX_inScope q (xd, xg, xN, (nI L), xF, xV, xC, xs, ph, cr, ec, en, ft, bt, pr, op, a, b, xp, fi, xl, nx, xo, fn, fe, vn, vo, vv, xst, xf, xr, xh, xc, fN, fX, fS, fT, fL, pv) c) := by
  have A : ∀ d i, i + d = L → (∀ j, j < i → ¬ cb_mk oc a b (st j) (cb_q L st pc j) c) → (cb_sc L st oc pc a b c ∧ ∀ (q : Int32 → Prop) (f : Nat), q 1 → wX_inScope_2 q c xd xg xN (nI L) xF xV xC xs ph cr ec en ft bt pr op a b xp fi xl nx xo fn fe vn vo vv xst xf xr xh xc fN fX fS fT fL pv (f + d + 1) (nI i)) ∨ (¬ cb_sc L st oc pc a b c ∧ ∀ (q : Int32 → Prop) (f : Nat), q 0 → wX_inScope_2 q c xd xg xN (nI L) xF xV xC xs ph cr ec en ft bt pr op a b xp fi xl nx xo fn fe vn vo vv xst xf xr xh xc fN fX fS fT fL pv (f + d + 1) (nI i)) := by
    intro d
    induction d with
    | zero =>
      intro i hi hj
      obtain rfl : i = L := by omega
      refine Or.inr ⟨fun h => ?_, fun q f hq => br_t (nI_le (Nat.le_refl _) (by omega)) hq⟩
      obtain ⟨j, h1, h2⟩ := h
      exact hj j h1 h2
    | succ d ih =>
      intro i hi hj
      obtain ⟨s1, s2, s3, s4, s5, s6⟩ := hs i (by omega)
      have e := nc_ (n := i) (by omega)
      have w := vi_ (n := i) (N := 16) (by omega) (by omega)
      have hge : ¬ nI L ≤ nI i := nI_ge (by omega) (by omega)
      rcases x_makes (xL := nI L) (oc := oc) (c := c) s1 s3 rfl s4 s5 s6 with ⟨m1, m2⟩ | ⟨m1, m2⟩
      · refine Or.inl ⟨⟨i, by omega, m1⟩, fun q f hq => br_f hge ⟨w, ?_⟩⟩
        rw [e, s2]
        exact m2 _ (br_f (by decide) hq)
      · rcases ih (i + 1) (by omega) (fun j h1 => by
          by_cases h2 : j = i
          · rw [h2]; exact m1
          · exact hj j (by omega)) with ⟨n1, n2⟩ | ⟨n1, n2⟩
        · refine Or.inl ⟨n1, fun q f hq => br_f hge ⟨w, ?_⟩⟩
          rw [e, s2]
          exact m2 _ (br_t rfl (nm_r (nI_1 i) (n2 q f hq)))
        · refine Or.inr ⟨n1, fun q f hq => br_f hge ⟨w, ?_⟩⟩
          rw [e, s2]
          exact m2 _ (br_t rfl (nm_r (nI_1 i) (n2 q f hq)))
  rcases A L 0 (by omega) (fun j hj => by omega) with ⟨n1, n2⟩ | ⟨n1, n2⟩
  · exact Or.inl ⟨n1, fun q hq => ⟨0 + L + 1, n2 q 0 hq⟩⟩
  · exact Or.inr ⟨n1, fun q hq => ⟨0 + L + 1, n2 q 0 hq⟩⟩
end
section
variable {yd yg yN yi yo yV yF yC ys yft ybt res yer ypl ypr rn hs : Int32} {gv gt : Int64} {op a b pa fi nx yp wn wu gn ge : Nat → Int32} {wv : Nat → Int64} {yl ya ye : Nat → Int32} {yk : Nat → Int64} {yt yc yst yf yr : Nat → Int32} {ou : Nat → Int64}
theorem y_sc {L : Nat} {st oc pc : Nat → Nat} {c : Int32} (hL : L ≤ 16) (hi0 : yi = if L = 0 then -1 else nI (st (L - 1))) (hst : ∀ i, i < L → st i < 96 ∧ op (st i) = nI (oc (st i)) ∧ oc (st i) ≤ 21 ∧ pa (st i) = (if i = 0 then -1 else nI (st (i - 1))) ∧ yp (st i) = nI (pc (st i)) ∧ pc (st i) < 1000 ∧ (i + 1 < L → 0 < pc (st i))) : (cb_sc L st oc pc a b c → ∀ q : Int32 → Prop, q 1 → wpY_inScope q (yd, yg, yN, yi, yo, yV, yF, yC, ys, yft, ybt, res, yer, ypl, ypr, rn, hs, gv, gt, op, a, b, pa, fi, nx, yp, wn, wu, gn, ge, wv, yl, ya, ye, yk, yt, yc, yst, yf, yr, ou) c) ∧ (¬ cb_sc L st oc pc a b c → ∀ q : Int32 → Prop, q 0 → wpY_inScope q (yd, yg, yN, yi, yo, yV, yF, yC, ys, yft, ybt, res, yer, ypl, ypr, rn, hs, gv, gt, op, a, b, pa, fi, nx, yp, wn, wu, gn, ge, wv, yl, ya, ye, yk, yt, yc, yst, yf, yr, ou) c) := by
  have A : ∀ i, i ≤ L → (∀ j, i ≤ j → j < L → ¬ cb_mk oc a b (st j) (cb_q L st pc j) c) → (cb_sc L st oc pc a b c → ∀ (q : Int32 → Prop) (f : Nat), q 1 → wY_inScope_20 q c yd yg yN yi yo yV yF yC ys yft ybt res yer ypl ypr rn hs gv gt op a b pa fi nx yp wn wu gn ge wv yl ya ye yk yt yc yst yf yr ou (f + i + 1) (if i = 0 then -1 else nI (st (i - 1))) (if i = 0 then 0 else nI (cb_q L st pc (i - 1)))) ∧ (¬ cb_sc L st oc pc a b c → ∀ (q : Int32 → Prop) (f : Nat), q 0 → wY_inScope_20 q c yd yg yN yi yo yV yF yC ys yft ybt res yer ypl ypr rn hs gv gt op a b pa fi nx yp wn wu gn ge wv yl ya ye yk yt yc yst yf yr ou (f + i + 1) (if i = 0 then -1 else nI (st (i - 1))) (if i = 0 then 0 else nI (cb_q L st pc (i - 1)))) := by
    intro i
    induction i with
    | zero =>
      intro _ hj
      refine ⟨fun h => ?_, fun h q f hq => br_t (by rw [if_pos rfl]; decide) hq⟩
      obtain ⟨j, h1, h2⟩ := h
      exact absurd h2 (hj j (by omega) h1)
    | succ i ih =>
      intro hi hj
      obtain ⟨s1, s2, s3, s4, s5, s6, s7⟩ := hst i (by omega)
      have e := nc_ (n := st i) (by omega)
      have w := vi_ (n := st i) (N := 96) s1 (by omega)
      have hq9 : cb_q L st pc i < 1000 := by unfold cb_q; split <;> omega
      rw [if_neg (show ¬ i + 1 = 0 by omega), if_neg (show ¬ i + 1 = 0 by omega), Nat.add_sub_cancel]
      have ne : ∀ j, j < 30 → j ≠ oc (st i) → ¬ op (st i) = nI j := by
        intro j hj hjo e
        rw [s2] at e
        have := (nI_eq (by omega) (by omega)).mp e
        omega
      -- the step outwards
      have out_ : ∀ (q : Int32 → Prop) (J : Int32 → Int32 → Prop), J (if i = 0 then -1 else nI (st (i - 1))) (if i = 0 then 0 else nI (cb_q L st pc (i - 1))) → wY_inScope_91 q J c (nI (st i)) yd yg yN yi yo yV yF yC ys yft ybt res yer ypl ypr rn hs gv gt op a b pa fi nx yp wn wu gn ge wv yl ya ye yk yt yc yst yf yr ou := by
        intro q J hJ
        refine ⟨w, nm_r (e' := if i = 0 then -1 else nI (st (i - 1))) (by rw [e]; exact s4) ?_⟩
        by_cases h0 : i = 0
        · rw [if_pos h0]
          rw [if_pos h0, if_pos h0] at hJ
          exact br_f (by decide) hJ
        · rw [if_neg h0]
          rw [if_neg h0, if_neg h0] at hJ
          obtain ⟨t1, t2, t3, t4, t5, t6, t7⟩ := hst (i - 1) (by omega)
          have e' := nc_ (n := st (i - 1)) (by omega)
          have t8 := t7 (by omega)
          refine br_t (nI_pos' (by omega)) ⟨vi_ t1 (by omega), nm_r (e' := nI (cb_q L st pc (i - 1))) ?_ hJ⟩
          rw [e', t5]
          unfold cb_q
          rw [if_pos (by omega)]
          obtain ⟨p, hp⟩ : ∃ p, pc (st (i - 1)) = p + 1 := ⟨pc (st (i - 1)) - 1, by omega⟩
          rw [hp, nI_pred, Nat.add_sub_cancel]
      have fun_ : ∀ (q : Int32 → Prop) (J : Int32 → Int32 → Prop), (oc (st i) = 10 ∧ a (st i) ≤ c ∧ c < a (st i) + b (st i) → q 1) → (¬ (oc (st i) = 10 ∧ a (st i) ≤ c ∧ c < a (st i) + b (st i)) → wY_inScope_91 q J c (nI (st i)) yd yg yN yi yo yV yF yC ys yft ybt res yer ypl ypr rn hs gv gt op a b pa fi nx yp wn wu gn ge wv yl ya ye yk yt yc yst yf yr ou) → wY_inScope_51 q J c (nI (st i)) yd yg yN yi yo yV yF yC ys yft ybt res yer ypl ypr rn hs gv gt op a b pa fi nx yp wn wu gn ge wv yl ya ye yk yt yc yst yf yr ou := by
        intro q J h1 h2
        unfold wY_inScope_51
        rw [e]
        refine ⟨w, br_c (fun o10 => ⟨w, br_c (fun h3 => h2 (fun h => absurd h3 (Int32.not_lt.mpr h.2.1))) (fun h3 => ⟨w, w, br_c (fun h4 => h2 (fun h => absurd h.2.2 (Int32.not_lt.mpr h4))) (fun h4 => h1 ⟨?_, Int32.not_lt.mp h3, Int32.not_le.mp h4⟩)⟩)⟩) (fun o10 => h2 (fun h => o10 (by rw [s2, h.1]; rfl)))⟩
        rw [s2] at o10
        exact (nI_eq (a := oc (st i)) (b := 10) (by omega) (by omega)).mp o10
      have loc_ : ∀ (q : Int32 → Prop) (f : Nat), (cb_mk oc a b (st i) (cb_q L st pc i) c → q 1) → (¬ cb_mk oc a b (st i) (cb_q L st pc i) c → wY_inScope_20 q c yd yg yN yi yo yV yF yC ys yft ybt res yer ypl ypr rn hs gv gt op a b pa fi nx yp wn wu gn ge wv yl ya ye yk yt yc yst yf yr ou (f + (i + 1)) (if i = 0 then -1 else nI (st (i - 1))) (if i = 0 then 0 else nI (cb_q L st pc (i - 1)))) → wY_inScope_20 q c yd yg yN yi yo yV yF yC ys yft ybt res yer ypl ypr rn hs gv gt op a b pa fi nx yp wn wu gn ge wv yl ya ye yk yt yc yst yf yr ou (f + (i + 1) + 1) (nI (st i)) (nI (cb_q L st pc i)) := by
        intro q f h1 h2
        have k51 : ¬ (oc (st i) = 8 ∧ 0 < cb_q L st pc i ∧ a (st i) = c) → wY_inScope_51 q (wY_inScope_20 q c yd yg yN yi yo yV yF yC ys yft ybt res yer ypl ypr rn hs gv gt op a b pa fi nx yp wn wu gn ge wv yl ya ye yk yt yc yst yf yr ou (f + (i + 1))) c (nI (st i)) yd yg yN yi yo yV yF yC ys yft ybt res yer ypl ypr rn hs gv gt op a b pa fi nx yp wn wu gn ge wv yl ya ye yk yt yc yst yf yr ou := fun h3 => fun_ _ _ (fun h4 => h1 (Or.inr h4)) (fun h4 => out_ _ _ (h2 (fun h => by
          rcases h with h | h
          · exact h3 h
          · exact h4 h)))
        refine br_f (nI_pos (by omega)) ⟨w, br_c (fun o8 => ⟨w, br_c (fun ha => br_c (fun hle => k51 (fun h => ?_)) (fun hle => h1 (Or.inl ⟨?_, ?_, ?_⟩))) (fun ha => k51 (fun h => ?_))⟩) (fun o8 => k51 (fun h => ?_))⟩
        · exact absurd hle (nI_nle h.2.1 (by omega))
        · rw [e, s2] at o8
          exact (nI_eq (a := oc (st i)) (b := 8) (by omega) (by omega)).mp o8
        · rcases Nat.eq_zero_or_pos (cb_q L st pc i) with hz | hz
          · rw [hz] at hle; exact absurd (by decide) hle
          · exact hz
        · rw [e] at ha; exact ha
        · rw [e] at ha; exact ha h.2.2
        · rw [e] at o8; exact o8 (by rw [s2, h.1]; rfl)
      by_cases hm : cb_mk oc a b (st i) (cb_q L st pc i) c
      · exact ⟨fun _ q f hq => loc_ q f (fun _ => hq) (fun h => absurd hm h), fun h => absurd ⟨i, by omega, hm⟩ h⟩
      · have ih' := ih (by omega) (fun j h1 h2 => by
          by_cases h3 : j = i
          · rw [h3]; exact hm
          · exact hj j (by omega) h2)
        exact ⟨fun h q f hq => loc_ q f (fun h2 => absurd h2 hm) (fun _ => ih'.1 h q f hq), fun h q f hq => loc_ q f (fun h2 => absurd h2 hm) (fun _ => ih'.2 h q f hq)⟩
  have B := A L (Nat.le_refl _) (fun j h1 h2 => by omega)
  have go : ∀ (q : Int32 → Prop), (wY_inScope_20 q c yd yg yN yi yo yV yF yC ys yft ybt res yer ypl ypr rn hs gv gt op a b pa fi nx yp wn wu gn ge wv yl ya ye yk yt yc yst yf yr ou (0 + L + 1) (if L = 0 then -1 else nI (st (L - 1))) (if L = 0 then 0 else nI (cb_q L st pc (L - 1)))) → wpY_inScope q (yd, yg, yN, yi, yo, yV, yF, yC, ys, yft, ybt, res, yer, ypl, ypr, rn, hs, gv, gt, op, a, b, pa, fi, nx, yp, wn, wu, gn, ge, wv, yl, ya, ye, yk, yt, yc, yst, yf, yr, ou) c := by
    intro q h
    by_cases h0 : L = 0
    · rw [if_pos h0, if_pos h0] at h
      rw [if_pos h0] at hi0
      subst hi0
      exact br_f (by decide) ⟨_, h⟩
    · rw [if_neg h0, if_neg h0] at h
      rw [if_neg h0] at hi0
      subst hi0
      obtain ⟨t1, t2, t3, t4, t5, t6, t7⟩ := hst (L - 1) (by omega)
      have e' := nc_ (n := st (L - 1)) (by omega)
      refine br_t (nI_pos' (by omega)) ⟨vi_ t1 (by omega), nm_r (e' := nI (cb_q L st pc (L - 1))) ?_ ⟨_, h⟩⟩
      rw [e', t5]
      unfold cb_q
      rw [if_neg (by omega)]
  exact ⟨fun h q hq => go q (B.1 h q 0 hq), fun h q hq => go q (B.2 h q 0 hq)⟩
end
end
section
def cb_i (L : Nat) (st : Nat → Nat) : Int32 := if L = 0 then -1 else nI (st (L - 1))
/-- what holds between two calls: the answers of the latest run -/
def ci_P (ph : Int32) (cr : Int64) (ec en pr : Int32) (pv : Nat → Int64) (res yer ypl : Int32) (gv : Int64) (ou : Nat → Int64) : Prop :=
  cr_O 40 6 ph cr ec en res yer ypl gv ∧ ∃ w, w ≤ 90000 ∧ pr = nI w ∧ ∀ j, j < 24 → j < w → cv_R 40 6 (pv j) (ou j)
def ci_R (dep fu L : Nat) (st : Nat → Nat) (N : Nat) (oc pc E lv : Nat → Nat) (kd : Nat → Nat → Nat) (SC : Nat → Int32 → Prop) (op a b fi nx xp xl xo pa yp : Nat → Int32) (ph : Int32) (cr : Int64) (ec en pr : Int32) (pv : Nat → Int64) (res yer ypl : Int32) (gv : Int64) (ou : Nat → Int64) : Prop :=
  (1 ≤ dep ∧ dep ≤ 6 ∧ fu ≤ 200) ∧ (cb_G L st N oc pc E lv kd SC op a b fi nx xp xl xo pa yp) ∧ ci_P ph cr ec en pr pv res yer ypl gv ou
def i_Rel (_ : Nat) (u : SX) (v : SY) : Prop :=
  ∃ (dep fu L N : Nat) (st oc pc E lv : Nat → Nat) (kd : Nat → Nat → Nat) (SC : Nat → Int32 → Prop) (xF xV xC xs ph : Int32) (cr : Int64) (ec en ft bt pr : Int32) (op a b xp fi xl nx xo fn fe vn vo : Nat → Int32) (vv : Nat → Int64) (xst xf xr xh xc fN fX fS fT : Nat → Int32) (fL pv : Nat → Int64) (ys yft res yer ypl rn hs : Int32) (gv gt : Int64) (pa yp wn wu gn ge : Nat → Int32) (wv : Nat → Int64) (yl ya ye : Nat → Int32) (yk : Nat → Int64) (yt yc yst yf yr : Nat → Int32) (ou : Nat → Int64),
    u = ((nI dep), (nI fu), (nI N), (nI L), xF, xV, xC, xs, ph, cr, ec, en, ft, bt, pr, op, a, b, xp, fi, xl, nx, xo, fn, fe, vn, vo, vv, xst, xf, xr, xh, xc, fN, fX, fS, fT, fL, pv) ∧ v = ((nI dep), (nI fu), (nI N), (cb_i L st), (nI L), xV, xF, xC, ys, yft, bt, res, yer, ypl, pr, rn, hs, gv, gt, op, a, b, pa, fi, nx, yp, wn, wu, gn, ge, wv, yl, ya, ye, yk, yt, yc, yst, yf, yr, ou) ∧ (ci_R dep fu L st N oc pc E lv kd SC op a b fi nx xp xl xo pa yp ph cr ec en pr pv res yer ypl gv ou)
section
variable {dep fu L N : Nat} {st oc pc E lv : Nat → Nat} {kd : Nat → Nat → Nat} {SC : Nat → Int32 → Prop} {xF xV xC xs ph : Int32} {cr : Int64} {ec en ft bt pr : Int32} {op a b xp fi xl nx xo fn fe vn vo : Nat → Int32} {vv : Nat → Int64} {xst xf xr xh xc fN fX fS fT : Nat → Int32} {fL pv : Nat → Int64} {ys yft res yer ypl rn hs : Int32} {gv gt : Int64} {pa yp wn wu gn ge : Nat → Int32} {wv : Nat → Int64} {yl ya ye : Nat → Int32} {yk : Nat → Int64} {yt yc yst yf yr : Nat → Int32} {ou : Nat → Int64}
theorem ci_mk {k : Nat} (h : (ci_R dep fu L st N oc pc E lv kd SC op a b fi nx xp xl xo pa yp ph cr ec en pr pv res yer ypl gv ou)) : i_Rel k ((nI dep), (nI fu), (nI N), (nI L), xF, xV, xC, xs, ph, cr, ec, en, ft, bt, pr, op, a, b, xp, fi, xl, nx, xo, fn, fe, vn, vo, vv, xst, xf, xr, xh, xc, fN, fX, fS, fT, fL, pv) ((nI dep), (nI fu), (nI N), (cb_i L st), (nI L), xV, xF, xC, ys, yft, bt, res, yer, ypl, pr, rn, hs, gv, gt, op, a, b, pa, fi, nx, yp, wn, wu, gn, ge, wv, yl, ya, ye, yk, yt, yc, yst, yf, yr, ou) := ⟨dep, fu, L, N, st, oc, pc, E, lv, kd, SC, xF, xV, xC, xs, ph, cr, ec, en, ft, bt, pr, op, a, b, xp, fi, xl, nx, xo, fn, fe, vn, vo, vv, xst, xf, xr, xh, xc, fN, fX, fS, fT, fL, pv, ys, yft, res, yer, ypl, rn, hs, gv, gt, pa, yp, wn, wu, gn, ge, wv, yl, ya, ye, yk, yt, yc, yst, yf, yr, ou, rfl, rfl, h⟩
theorem i_up {k : Nat} {u : SX} {v : SY} (h : i_Rel k u v) : i_Rel (k + 4) u v := h
theorem cg_0 : cb_G 0 st 0 oc pc E lv kd SC op a b fi nx xp xl xo pa yp :=
  ⟨⟨by omega, by omega, fun h => by omega, fun h => by omega⟩, fun i hi => by omega, fun n hn => by omega, fun n hn => by omega, fun i hi => by omega⟩
/-- a bound of the constructors -/
theorem ci_w (x : Int32) (m : Nat) (hm : m < 1000) (hm1 : 1 ≤ m) : (1 ≤ x ∧ x ≤ nI m ∧ ∃ d, 1 ≤ d ∧ d ≤ m ∧ x = nI d) ∨ (1 ≤ x ∧ ¬ x ≤ nI m) ∨ (¬ 1 ≤ x) := by
  by_cases h1 : 1 ≤ x
  · by_cases h2 : x ≤ nI m
    · have h0 : ¬ x < 0 := fun h => by
        have := Int32.lt_of_le_of_lt h1 h
        exact absurd this (by decide)
      obtain ⟨j, j1, j2⟩ := nI_of h0
      rw [j2, nI_leI j1 (by omega)] at h2
      have h3 : nI 1 ≤ nI j := by rw [← j2]; exact h1
      rw [nI_leI (by omega) j1] at h3
      exact Or.inl ⟨h1, by rw [j2, nI_leI j1 (by omega)]; exact h2, j, h3, h2, j2⟩
    · exact Or.inr (Or.inl ⟨h1, h2⟩)
  · exact Or.inr (Or.inr h1)
theorem ci_0 {k : Nat} {d f : Nat} (hd : 1 ≤ d) (hd6 : d ≤ 6) (hf : f ≤ 200) : i_Rel k (nI d, nI f, 0, 0, 0, 0, 0, 0, 3, 0, 0, (-1), 0, 0, 0, (fun _ => 0), (fun _ => 0), (fun _ => 0), (fun _ => 0), (fun _ => 0), (fun _ => 0), (fun _ => 0), (fun _ => 0), (fun _ => 0), (fun _ => 0), (fun _ => 0), (fun _ => 0), (fun _ => 0), (fun _ => 0), (fun _ => 0), (fun _ => 0), (fun _ => 0), (fun _ => 0), (fun _ => 0), (fun _ => 0), (fun _ => 0), (fun _ => 0), (fun _ => 0), (fun _ => 0)) (nI d, nI f, 0, (-1), 0, 0, 0, 0, 0, 0, 0, 3, 0, (-1), 0, 0, 0, 0, 0, (fun _ => 0), (fun _ => 0), (fun _ => 0), (fun _ => 0), (fun _ => 0), (fun _ => 0), (fun _ => 0), (fun _ => 0), (fun _ => 0), (fun _ => 0), (fun _ => 0), (fun _ => 0), (fun _ => 0), (fun _ => 0), (fun _ => 0), (fun _ => 0), (fun _ => 0), (fun _ => 0), (fun _ => 0), (fun _ => 0), (fun _ => 0), (fun _ => 0)) :=
  ci_mk (dep := d) (fu := f) (L := 0) (N := 0) (st := fun _ => 0) (oc := fun _ => 0) (pc := fun _ => 0) (E := fun _ => 0) (lv := fun _ => 0) (kd := fun _ _ => 0) (SC := fun _ _ => False) ⟨⟨hd, hd6, hf⟩, cg_0, ⟨3, by omega, rfl, rfl, fun h => by omega, fun h => by omega, fun _ => ⟨rfl, rfl⟩⟩, 0, by omega, rfl, fun j h1 h2 => by omega⟩
theorem i_vc0 (k0 : Int32) (k1 : Int32) : wpX_init (fun u => wpY_init (fun v => i_Rel 2 u v) k0 k1) k0 k1 := by
  rcases ci_w k0 6 (by omega) (by omega) with ⟨h1, h2, d, d1, d2, d3⟩ | ⟨h1, h2⟩ | h1
  · rcases ci_w k1 200 (by omega) (by omega) with ⟨g1, g2, f, f1, f2, f3⟩ | ⟨g1, g2⟩ | g1
    · exact br_t h1 (br_t h2 (br_t g1 (br_t g2 (br_t h1 (br_t h2 (br_t g1 (br_t g2 (by subst d3 f3; exact ci_0 (k := 2) d1 d2 f2))))))))
    · exact br_t h1 (br_t h2 (br_t g1 (br_f g2 (br_t h1 (br_t h2 (br_t g1 (br_f g2 (by subst d3; exact ci_0 (k := 2) (f := 200) d1 d2 (by omega)))))))))
    · exact br_t h1 (br_t h2 (br_f g1 (br_t h1 (br_t h2 (br_f g1 (by subst d3; exact ci_0 (k := 2) (f := 1) d1 d2 (by omega)))))))
  · rcases ci_w k1 200 (by omega) (by omega) with ⟨g1, g2, f, f1, f2, f3⟩ | ⟨g1, g2⟩ | g1
    · exact br_t h1 (br_f h2 (br_t g1 (br_t g2 (br_t h1 (br_f h2 (br_t g1 (br_t g2 (by subst f3; exact ci_0 (k := 2) (d := 6) (by omega) (by omega) f2))))))))
    · exact br_t h1 (br_f h2 (br_t g1 (br_f g2 (br_t h1 (br_f h2 (br_t g1 (br_f g2 (ci_0 (k := 2) (d := 6) (f := 200) (by omega) (by omega) (by omega)))))))))
    · exact br_t h1 (br_f h2 (br_f g1 (br_t h1 (br_f h2 (br_f g1 (ci_0 (k := 2) (d := 6) (f := 1) (by omega) (by omega) (by omega)))))))
  · rcases ci_w k1 200 (by omega) (by omega) with ⟨g1, g2, f, f1, f2, f3⟩ | ⟨g1, g2⟩ | g1
    · exact br_f h1 (br_t g1 (br_t g2 (br_f h1 (br_t g1 (br_t g2 (by subst f3; exact ci_0 (k := 2) (d := 1) (by omega) (by omega) f2))))))
    · exact br_f h1 (br_t g1 (br_f g2 (br_f h1 (br_t g1 (br_f g2 (ci_0 (k := 2) (d := 1) (f := 200) (by omega) (by omega) (by omega)))))))
    · exact br_f h1 (br_f g1 (br_f h1 (br_f g1 (ci_0 (k := 2) (d := 1) (f := 1) (by omega) (by omega) (by omega)))))
theorem i_vc_drop {k : Nat} {u : SX} {v : SY} (I : i_Rel k u v) (hk : k + 4 ≤ 2050) : wpX_drop (fun u' => wpY_drop (fun v' => i_Rel (k + 4) u' v') v) u := by
  obtain ⟨dep, fu, L, N, st, oc, pc, E, lv, kd, SC, xF, xV, xC, xs, ph, cr, ec, en, ft, bt, pr, op, a, b, xp, fi, xl, nx, xo, fn, fe, vn, vo, vv, xst, xf, xr, xh, xc, fN, fX, fS, fT, fL, pv, ys, yft, res, yer, ypl, rn, hs, gv, gt, pa, yp, wn, wu, gn, ge, wv, yl, ya, ye, yk, yt, yc, yst, yf, yr, ou, rfl, rfl, h1, h2, h3⟩ := I
  exact ci_mk (k := k + 4) (L := 0) (N := 0) (st := st) ⟨h1, cg_0 (st := st) (oc := oc) (pc := pc) (E := E) (lv := lv) (kd := kd) (SC := SC), h3⟩
/-- the room for a node -/
theorem bd_room (hG : (cb_G L st N oc pc E lv kd SC op a b fi nx xp xl xo pa yp)) : ∃ r : Int32, (∀ q : Int32 → Prop, q r → wpX_hasRoom q ((nI dep), (nI fu), (nI N), (nI L), xF, xV, xC, xs, ph, cr, ec, en, ft, bt, pr, op, a, b, xp, fi, xl, nx, xo, fn, fe, vn, vo, vv, xst, xf, xr, xh, xc, fN, fX, fS, fT, fL, pv)) ∧ (∀ q : Int32 → Prop, q r → wpY_room q ((nI dep), (nI fu), (nI N), (cb_i L st), (nI L), xV, xF, xC, ys, yft, bt, res, yer, ypl, pr, rn, hs, gv, gt, op, a, b, pa, fi, nx, yp, wn, wu, gn, ge, wv, yl, ya, ye, yk, yt, yc, yst, yf, yr, ou)) ∧ (r = 0 ∨ (r = 1 ∧ ((N = 0 ∧ L = 0) ∨ (∃ l, l + 1 = L ∧ N < 96 ∧ pc (st l) < ct_mx (oc (st l)))))) := by
  obtain ⟨⟨g1, g2, g3, g4⟩, g5, g6, g7, g8⟩ := hG
  by_cases h1 : 0 < N ∧ L = 0
  · refine ⟨0, fun q hq => x_room0 (Or.inl h1) g1 (by omega) hq, fun q hq => y_room0 (Or.inl ⟨h1.1, if_pos h1.2⟩) g1 hq, Or.inl rfl⟩
  · by_cases h2 : 96 ≤ N
    · refine ⟨0, fun q hq => x_room0 (Or.inr h2) g1 (by omega) hq, fun q hq => y_room0 (Or.inr ⟨h2, ?_⟩) g1 hq, Or.inl rfl⟩
      unfold cb_i
      rw [if_neg (by omega)]
      exact nI_pos (by have := (g5 (L - 1) (by omega)).1; omega)
    · rcases Nat.eq_zero_or_pos L with h0 | h0
      · obtain rfl : N = 0 := by omega
        subst h0
        exact ⟨1, fun q hq => x_room1 hq, fun q hq => y_room1 hq, Or.inr ⟨rfl, Or.inl ⟨rfl, rfl⟩⟩⟩
      · obtain ⟨l, rfl⟩ : ∃ l, L = l + 1 := ⟨L - 1, by omega⟩
        obtain ⟨e1, e2, e3, e4, e5, e6, e7, e8⟩ := g5 l (by omega)
        have hinj : ∀ i, i + 1 < l + 1 → st i ≠ st l := fun i hi e => by have := e6 i (by omega); omega
        have hxp := (g7 (st l) e1).2.1 hinj
        have hyp := (g7 (st l) e1).1
        have hop := (g6 (st l) e1).1.2.1
        have hpn := (g6 (st l) e1).1.2.2.2
        have hci : cb_i (l + 1) st = nI (st l) := by unfold cb_i; rw [if_neg (by omega), Nat.add_sub_cancel]
        rw [hci]
        by_cases h3 : pc (st l) < ct_mx (oc (st l))
        · exact ⟨1, fun q hq => x_room2 (by omega) (by omega) (by omega) e2 (by omega) hxp (by omega) hop e4 (fun h => by omega) (fun _ => hq), fun q hq => y_room2 (by omega) (by omega) (by omega) hyp (by omega) hop e4 (fun h => by omega) (fun _ => hq), Or.inr ⟨rfl, Or.inr ⟨l, rfl, by omega, h3⟩⟩⟩
        · exact ⟨0, fun q hq => x_room2 (by omega) (by omega) (by omega) e2 (by omega) hxp (by omega) hop e4 (fun _ => hq) (fun h => by omega), fun q hq => y_room2 (by omega) (by omega) (by omega) hyp (by omega) hop e4 (fun _ => hq) (fun h => by omega), Or.inl rfl⟩
/-- is c in scope -/
theorem bd_scope (hG : (cb_G L st N oc pc E lv kd SC op a b fi nx xp xl xo pa yp)) (c : Int32) : ∃ r : Int32, (∀ q : Int32 → Prop, q r → wpX_inScope q ((nI dep), (nI fu), (nI N), (nI L), xF, xV, xC, xs, ph, cr, ec, en, ft, bt, pr, op, a, b, xp, fi, xl, nx, xo, fn, fe, vn, vo, vv, xst, xf, xr, xh, xc, fN, fX, fS, fT, fL, pv) c) ∧ (∀ q : Int32 → Prop, q r → wpY_inScope q ((nI dep), (nI fu), (nI N), (cb_i L st), (nI L), xV, xF, xC, ys, yft, bt, res, yer, ypl, pr, rn, hs, gv, gt, op, a, b, pa, fi, nx, yp, wn, wu, gn, ge, wv, yl, ya, ye, yk, yt, yc, yst, yf, yr, ou) c) ∧ ((r = 0 ∧ ¬ cb_sc L st oc pc a b c) ∨ (r = 1 ∧ cb_sc L st oc pc a b c)) := by
  have hG' := hG
  obtain ⟨⟨g1, g2, g3, g4⟩, g5, g6, g7, g8⟩ := hG
  have hy := y_sc (c := c) (yd := nI dep) (yg := nI fu) (yN := nI N) (yi := cb_i L st) (yo := nI L) (yV := xV) (yF := xF) (yC := xC) (ys := ys) (yft := yft) (ybt := bt) (res := res) (yer := yer) (ypl := ypl) (ypr := pr) (rn := rn) (hs := hs) (gv := gv) (gt := gt) (op := op) (a := a) (b := b) (pa := pa) (fi := fi) (nx := nx) (yp := yp) (wn := wn) (wu := wu) (gn := gn) (ge := ge) (wv := wv) (yl := yl) (ya := ya) (ye := ye) (yk := yk) (yt := yt) (yc := yc) (yst := yst) (yf := yf) (yr := yr) (ou := ou) (L := L) (st := st) (oc := oc) (pc := pc) g2 rfl (fun i hi => by
    obtain ⟨e1, e2, e3, e4, e5, e6, e7, e8⟩ := g5 i hi
    have hpn := (g6 (st i) e1).1.2.2.2
    exact ⟨by omega, (g6 (st i) e1).1.2.1, by omega, e3, (g7 (st i) e1).1, by omega, fun h => (e7 h).1⟩)
  rcases x_sc (c := c) (xd := nI dep) (xg := nI fu) (xN := nI N) (xF := xF) (xV := xV) (xC := xC) (xs := xs) (ph := ph) (cr := cr) (ec := ec) (en := en) (ft := ft) (bt := bt) (pr := pr) (op := op) (a := a) (b := b) (xp := xp) (fi := fi) (xl := xl) (nx := nx) (xo := xo) (fn := fn) (fe := fe) (vn := vn) (vo := vo) (vv := vv) (xst := xst) (xf := xf) (xr := xr) (xh := xh) (xc := xc) (fN := fN) (fX := fX) (fS := fS) (fT := fT) (fL := fL) (pv := pv) (L := L) (st := st) (oc := oc) (pc := pc) g2 (fun i hi => by
    obtain ⟨e1, e2, e3, e4, e5, e6, e7, e8⟩ := g5 i hi
    have hpn := (g6 (st i) e1).1.2.2.2
    refine ⟨by omega, e2, (g6 (st i) e1).1.2.1, by omega, ?_, ?_⟩
    · unfold cb_q
      by_cases h : i + 1 < L
      · rw [if_pos h]; exact (e7 h).2.2
      · rw [if_neg h]
        exact (g7 (st i) e1).2.1 (fun j hj e => by have := cb_inj hG' (by omega) hi e; omega)
    · unfold cb_q; split <;> omega) with ⟨m1, m2⟩ | ⟨m1, m2⟩
  · exact ⟨1, m2, hy.1 m1, Or.inr ⟨rfl, m1⟩⟩
  · exact ⟨0, m2, hy.2 m1, Or.inl ⟨rfl, m1⟩⟩
end
end
section
section
variable {dep fu L N : Nat} {st oc pc E lv : Nat → Nat} {kd : Nat → Nat → Nat} {SC : Nat → Int32 → Prop} {xF xV xC xs ph : Int32} {cr : Int64} {ec en ft bt pr : Int32} {op a b xp fi xl nx xo fn fe vn vo : Nat → Int32} {vv : Nat → Int64} {xst xf xr xh xc fN fX fS fT : Nat → Int32} {fL pv : Nat → Int64} {ys yft res yer ypl rn hs : Int32} {gv gt : Int64} {pa yp wn wu gn ge : Nat → Int32} {wv : Nat → Int64} {yl ya ye : Nat → Int32} {yk : Nat → Int64} {yt yc yst yf yr : Nat → Int32} {ou : Nat → Int64}
/-- a leaf is added, both sides -/
theorem bd_leaf {k o : Nat} {av : Int32} (hI : (ci_R dep fu L st N oc pc E lv kd SC op a b fi nx xp xl xo pa yp ph cr ec en pr pv res yer ypl gv ou)) (hr : (N = 0 ∧ L = 0) ∨ (∃ l, l + 1 = L ∧ N < 96 ∧ pc (st l) < ct_mx (oc (st l)))) (ho : o = 20 ∨ o = 21) (hS : o = 21 → cb_sc L st oc pc a b av) :
    ∃ u2 v2, (∀ post : SX → Prop, post u2 → wpX_addNode (fun u => wpX_countPart post u) ((nI dep), (nI fu), (nI N), (nI L), xF, xV, xC, xs, ph, cr, ec, en, ft, bt, pr, op, a, b, xp, fi, xl, nx, xo, fn, fe, vn, vo, vv, xst, xf, xr, xh, xc, fN, fX, fS, fT, fL, pv) (nI o) av 0) ∧ (∀ post : SY → Prop, post v2 → wpY_add post ((nI dep), (nI fu), (nI N), (cb_i L st), (nI L), xV, xF, xC, ys, yft, bt, res, yer, ypl, pr, rn, hs, gv, gt, op, a, b, pa, fi, nx, yp, wn, wu, gn, ge, wv, yl, ya, ye, yk, yt, yc, yst, yf, yr, ou) (nI o) av 0) ∧ i_Rel k u2 v2 := by
  obtain ⟨h1, hG, h3⟩ := hI
  rcases hr with ⟨rfl, rfl⟩ | ⟨l, rfl, hN, hp⟩
  · have ho20 : o = 20 := by
      rcases ho with h | h
      · exact h
      · obtain ⟨i, hi, _⟩ := hS h; omega
    exact ⟨_, _, fun post KK => x_add0 (by omega) (x_cnt0 KK), fun post KK => y_add0 (by omega) KK, ci_mk (k := k) (L := 0) (N := 1) (st := st) ⟨h1, cb_leaf0 (av := av) (bv := 0) hG ho20, h3⟩⟩
  · have hG' := hG
    obtain ⟨⟨g1, g2, g3, g4⟩, g5, g6, g7, g8⟩ := hG
    obtain ⟨e1, e2, e3, e4, e5, e6, e7, e8⟩ := g5 l (by omega)
    have hinj : ∀ i, i + 1 < l + 1 → st i ≠ st l := fun i hi e => by have := e6 i (by omega); omega
    have hxp := (g7 (st l) e1).2.1 hinj
    have hyp := (g7 (st l) e1).1
    have nd := g6 (st l) e1
    have hci : cb_i (l + 1) st = nI (st l) := by unfold cb_i; rw [if_neg (by omega), Nat.add_sub_cancel]
    have hkd := nd.2.2.2.2.2.1
    have hG2 := cb_leaf (o := o) (av := av) (bv := 0) hG' rfl hN hp ho hS rfl rfl
    refine ⟨_, _, fun post KK => x_add1 (p := pc (st l)) (z := kd (st l) (pc (st l) - 1)) hN (by omega) e2 (by omega) nd.2.2.2.2.1.1 (fun h => ⟨kd (st l) 0, by have := (hkd 0 h).2.1; omega, nd.2.2.2.2.1.2 h⟩) (fun h => ⟨(g7 (st l) e1).2.2 h, by have := (hkd (pc (st l) - 1) (by omega)).2.1; omega⟩) (x_cnt1 (by omega) e2 (by omega) ((pk_un (by omega)).trans hxp) KK), fun post KK => by
      rw [hci]
      exact y_add1 (p := pc (st l)) (kd := kd (st l)) hN e1 hyp nd.2.2.2.2.1.1 nd.2.2.2.2.1.2 (fun i hi => (hkd i hi).2.1) (fun i hi => ((hkd i (by omega)).2.2.2.2.1 hi).1) (fun h => (hkd (pc (st l) - 1) (by omega)).2.2.2.2.2.1 (by omega)) KK, ?_⟩
    have := ci_mk (k := k) (L := l + 1) (N := N + 1) (st := st) (dep := dep) (fu := fu) (xF := xF) (xV := xV) (xC := xC) (xs := xs) (ph := ph) (cr := cr) (ec := ec) (en := en) (ft := ft) (bt := bt) (pr := pr) (fn := fn) (fe := fe) (vn := vn) (vo := vo) (vv := vv) (xst := xst) (xf := xf) (xr := xr) (xh := xh) (xc := xc) (fN := fN) (fX := fX) (fS := fS) (fT := fT) (fL := fL) (pv := pv) (ys := ys) (yft := yft) (res := res) (yer := yer) (ypl := ypl) (rn := rn) (hs := hs) (gv := gv) (gt := gt) (wn := wn) (wu := wu) (gn := gn) (ge := ge) (wv := wv) (yl := yl) (ya := ya) (ye := ye) (yk := yk) (yt := yt) (yc := yc) (yst := yst) (yf := yf) (yr := yr) (ou := ou) ⟨h1, hG2, h3⟩
    rw [hci] at this
    exact this
theorem i_vc_num {k : Nat} {u : SX} {v : SY} (I : i_Rel k u v) (hk : k + 4 ≤ 2050) (v1 : Int32) : wpX_num (fun r u' => wpY_num (fun r' v' => r' = r ∧ i_Rel (k + 4) u' v') v v1) u v1 := by
  have J := i_up I
  obtain ⟨dep, fu, L, N, st, oc, pc, E, lv, kd, SC, xF, xV, xC, xs, ph, cr, ec, en, ft, bt, pr, op, a, b, xp, fi, xl, nx, xo, fn, fe, vn, vo, vv, xst, xf, xr, xh, xc, fN, fX, fS, fT, fL, pv, ys, yft, res, yer, ypl, rn, hs, gv, gt, pa, yp, wn, wu, gn, ge, wv, yl, ya, ye, yk, yt, yc, yst, yf, yr, ou, rfl, rfl, hI⟩ := I
  obtain ⟨r, rX, rY, rr⟩ := bd_room hI.2.1
  rcases rr with rfl | ⟨rfl, hr⟩
  · unfold wpX_num
    dsimp only
    refine rX _ (br_t rfl ?_)
    unfold wpY_num
    dsimp only
    exact rY _ (br_t rfl ⟨rfl, J⟩)
  · obtain ⟨u2, v2, aX, aY, aI⟩ := bd_leaf (k := k + 4) (o := 20) (av := v1) hI hr (Or.inl rfl) (fun h => by omega)
    unfold wpX_num
    dsimp only
    refine rX _ (br_f (by decide) ?_)
    refine aX (fun u => wpY_num (fun r' v' => r' = 1 ∧ i_Rel (k + 4) u v') ((nI dep), (nI fu), (nI N), (cb_i L st), (nI L), xV, xF, xC, ys, yft, bt, res, yer, ypl, pr, rn, hs, gv, gt, op, a, b, pa, fi, nx, yp, wn, wu, gn, ge, wv, yl, ya, ye, yk, yt, yc, yst, yf, yr, ou) v1) ?_
    unfold wpY_num
    dsimp only
    refine rY _ (br_f (by decide) ?_)
    exact aY (fun v => (1 : Int32) = 1 ∧ i_Rel (k + 4) u2 v) ⟨rfl, aI⟩
theorem i_vc_name {k : Nat} {u : SX} {v : SY} (I : i_Rel k u v) (hk : k + 4 ≤ 2050) (v1 : Int32) : wpX_name (fun r u' => wpY_name (fun r' v' => r' = r ∧ i_Rel (k + 4) u' v') v v1) u v1 := by
  have J := i_up I
  obtain ⟨dep, fu, L, N, st, oc, pc, E, lv, kd, SC, xF, xV, xC, xs, ph, cr, ec, en, ft, bt, pr, op, a, b, xp, fi, xl, nx, xo, fn, fe, vn, vo, vv, xst, xf, xr, xh, xc, fN, fX, fS, fT, fL, pv, ys, yft, res, yer, ypl, rn, hs, gv, gt, pa, yp, wn, wu, gn, ge, wv, yl, ya, ye, yk, yt, yc, yst, yf, yr, ou, rfl, rfl, hI⟩ := I
  obtain ⟨r, rX, rY, rr⟩ := bd_room hI.2.1
  rcases rr with rfl | ⟨rfl, hr⟩
  · unfold wpX_name
    dsimp only
    refine rX _ (br_t rfl ?_)
    unfold wpY_name
    dsimp only
    exact rY _ (br_t rfl ⟨rfl, J⟩)
  · obtain ⟨z, zX, zY, zz⟩ := bd_scope hI.2.1 v1
    rcases zz with ⟨rfl, z1⟩ | ⟨rfl, z1⟩
    · unfold wpX_name
      dsimp only
      refine rX _ (br_f (by decide) (zX _ (br_t rfl ?_)))
      unfold wpY_name
      dsimp only
      exact rY _ (br_f (by decide) (zY _ (br_t rfl ⟨rfl, J⟩)))
    · obtain ⟨u2, v2, aX, aY, aI⟩ := bd_leaf (k := k + 4) (o := 21) (av := v1) hI hr (Or.inr rfl) (fun _ => z1)
      unfold wpX_name
      dsimp only
      refine rX _ (br_f (by decide) (zX _ (br_f (by decide) ?_)))
      refine aX (fun u => wpY_name (fun r' v' => r' = 1 ∧ i_Rel (k + 4) u v') ((nI dep), (nI fu), (nI N), (cb_i L st), (nI L), xV, xF, xC, ys, yft, bt, res, yer, ypl, pr, rn, hs, gv, gt, op, a, b, pa, fi, nx, yp, wn, wu, gn, ge, wv, yl, ya, ye, yk, yt, yc, yst, yf, yr, ou) v1) ?_
      unfold wpY_name
      dsimp only
      refine rY _ (br_f (by decide) (zY _ (br_f (by decide) ?_)))
      exact aY (fun v => (1 : Int32) = 1 ∧ i_Rel (k + 4) u2 v) ⟨rfl, aI⟩
end
end
section
section
variable {dep fu L N : Nat} {st oc pc E lv : Nat → Nat} {kd : Nat → Nat → Nat} {SC : Nat → Int32 → Prop} {xF xV xC xs ph : Int32} {cr : Int64} {ec en ft bt pr : Int32} {op a b xp fi xl nx xo fn fe vn vo : Nat → Int32} {vv : Nat → Int64} {xst xf xr xh xc fN fX fS fT : Nat → Int32} {fL pv : Nat → Int64} {ys yft res yer ypl rn hs : Int32} {gv gt : Int64} {pa yp wn wu gn ge : Nat → Int32} {wv : Nat → Int64} {yl ya ye : Nat → Int32} {yk : Nat → Int64} {yt yc yst yf yr : Nat → Int32} {ou : Nat → Int64}
/-- the operands fit or not, both sides -/
theorem bd_fit {v1 v2 v3 : Int32} (hG : (cb_G L st N oc pc E lv kd SC op a b fi nx xp xl xo pa yp)) (rY : ∀ q : Int32 → Prop, q 1 → wpY_room q ((nI dep), (nI fu), (nI N), (cb_i L st), (nI L), xV, xF, xC, ys, yft, bt, res, yer, ypl, pr, rn, hs, gv, gt, op, a, b, pa, fi, nx, yp, wn, wu, gn, ge, wv, yl, ya, ye, yk, yt, yc, yst, yf, yr, ou)) (hL : L < 16) :
    (∃ r : Int32, (∀ q : Int32 → Prop, q r → wpX_operandsFit q ((nI dep), (nI fu), (nI N), (nI L), xF, xV, xC, xs, ph, cr, ec, en, ft, bt, pr, op, a, b, xp, fi, xl, nx, xo, fn, fe, vn, vo, vv, xst, xf, xr, xh, xc, fN, fX, fS, fT, fL, pv) v1 v2 v3) ∧ ((r = 0 ∧ ∀ post : Int32 → SY → Prop, post 0 ((nI dep), (nI fu), (nI N), (cb_i L st), (nI L), xV, xF, xC, ys, yft, bt, res, yer, ypl, pr, rn, hs, gv, gt, op, a, b, pa, fi, nx, yp, wn, wu, gn, ge, wv, yl, ya, ye, yk, yt, yc, yst, yf, yr, ou) → wpY_open post ((nI dep), (nI fu), (nI N), (cb_i L st), (nI L), xV, xF, xC, ys, yft, bt, res, yer, ypl, pr, rn, hs, gv, gt, op, a, b, pa, fi, nx, yp, wn, wu, gn, ge, wv, yl, ya, ye, yk, yt, yc, yst, yf, yr, ou) v1 v2 v3) ∨ (r = 1 ∧ (∃ o, o < 20 ∧ v1 = nI o ∧ (o = 10 → ∃ p q, v2 = nI p ∧ v3 = nI q ∧ q ≤ 3 ∧ p + q ≤ 8) ∧ (o = 9 → cb_sc L st oc pc a b v2)) ∧ ∀ post : Int32 → SY → Prop, wY_open_89 post v1 v2 v3 (nI dep) (nI fu) (nI N) (cb_i L st) (nI L) xV xF xC ys yft bt res yer ypl pr rn hs gv gt op a b pa fi nx yp wn wu gn ge wv yl ya ye yk yt yc yst yf yr ou → wpY_open post ((nI dep), (nI fu), (nI N), (cb_i L st), (nI L), xV, xF, xC, ys, yft, bt, res, yer, ypl, pr, rn, hs, gv, gt, op, a, b, pa, fi, nx, yp, wn, wu, gn, ge, wv, yl, ya, ye, yk, yt, yc, yst, yf, yr, ou) v1 v2 v3))) := by
  have Y1 : ∀ post : Int32 → SY → Prop, ((v1 < 0 → (post 0 ((nI dep), (nI fu), (nI N), (cb_i L st), (nI L), xV, xF, xC, ys, yft, bt, res, yer, ypl, pr, rn, hs, gv, gt, op, a, b, pa, fi, nx, yp, wn, wu, gn, ge, wv, yl, ya, ye, yk, yt, yc, yst, yf, yr, ou))) ∧ (¬ v1 < 0 → (((v1 ≤ 19 → (((v1 = 8 → (((v2 < 0 → (post 0 ((nI dep), (nI fu), (nI N), (cb_i L st), (nI L), xV, xF, xC, ys, yft, bt, res, yer, ypl, pr, rn, hs, gv, gt, op, a, b, pa, fi, nx, yp, wn, wu, gn, ge, wv, yl, ya, ye, yk, yt, yc, yst, yf, yr, ou))) ∧ (¬ v2 < 0 → (((7 < v2 → (post 0 ((nI dep), (nI fu), (nI N), (cb_i L st), (nI L), xV, xF, xC, ys, yft, bt, res, yer, ypl, pr, rn, hs, gv, gt, op, a, b, pa, fi, nx, yp, wn, wu, gn, ge, wv, yl, ya, ye, yk, yt, yc, yst, yf, yr, ou))) ∧ (¬ 7 < v2 → (wY_open_44 post v1 v2 v3 (nI dep) (nI fu) (nI N) (cb_i L st) (nI L) xV xF xC ys yft bt res yer ypl pr rn hs gv gt op a b pa fi nx yp wn wu gn ge wv yl ya ye yk yt yc yst yf yr ou)))))))) ∧ (¬ v1 = 8 → (wY_open_44 post v1 v2 v3 (nI dep) (nI fu) (nI N) (cb_i L st) (nI L) xV xF xC ys yft bt res yer ypl pr rn hs gv gt op a b pa fi nx yp wn wu gn ge wv yl ya ye yk yt yc yst yf yr ou))))) ∧ (¬ v1 ≤ 19 → (post 0 ((nI dep), (nI fu), (nI N), (cb_i L st), (nI L), xV, xF, xC, ys, yft, bt, res, yer, ypl, pr, rn, hs, gv, gt, op, a, b, pa, fi, nx, yp, wn, wu, gn, ge, wv, yl, ya, ye, yk, yt, yc, yst, yf, yr, ou))))))) → wpY_open post ((nI dep), (nI fu), (nI N), (cb_i L st), (nI L), xV, xF, xC, ys, yft, bt, res, yer, ypl, pr, rn, hs, gv, gt, op, a, b, pa, fi, nx, yp, wn, wu, gn, ge, wv, yl, ya, ye, yk, yt, yc, yst, yf, yr, ou) v1 v2 v3 := by
    intro post h
    unfold wpY_open
    dsimp only
    refine rY _ (br_f (by decide) (br_f (fun z => ?_) h))
    have := (nI_eq (a := L) (b := 16) (by omega) (by omega)).mp z
    omega
  rcases pk_ix v1 (n := 20) (by omega) with h | h | ⟨o, ho, rfl⟩
  · exact ⟨0, fun q hq => br_t (Int32.lt_trans h (by decide)) (br_t h hq), Or.inl ⟨rfl, fun post hp => Y1 post (br_t h hp)⟩⟩
  · have h19 : (19 : Int32) < v1 := Int32.lt_of_lt_of_le (by decide) h
    have h10 : (10 : Int32) < v1 := Int32.lt_trans (by decide) h19
    have h8 : ¬ v1 < 8 := Int32.not_lt.mpr (Int32.le_of_lt (Int32.lt_trans (by decide) h10))
    have h0 : ¬ v1 < 0 := Int32.not_lt.mpr (Int32.le_of_lt (Int32.lt_trans (by decide) h10))
    exact ⟨0, fun q hq => br_f h8 (br_t h10 (br_f h0 (br_t h19 hq))), Or.inl ⟨rfl, fun post hp => Y1 post (br_f h0 (br_f (Int32.not_le.mpr h19) hp))⟩⟩
  · have h0 : ¬ nI o < 0 := nI_pos (by omega)
    have h19 : nI o ≤ 19 := nI_le (b := 19) (by omega) (by omega)
    have h19' : ¬ (19 : Int32) < nI o := nI_nlt (a := 19) (by omega) (by omega)
    have ne : ∀ j, j < 30 → j ≠ o → ¬ nI o = nI j := by
      intro j hj hjo e
      have := (nI_eq (by omega) (by omega)).mp e
      omega
    by_cases c8 : o = 8
    · subst c8
      by_cases k1 : v2 < 0
      · exact ⟨0, fun q hq => br_f (by decide) (br_f (by decide) (br_t rfl (br_t k1 hq))), Or.inl ⟨rfl, fun post hp => Y1 post (br_f h0 (br_t h19 (br_t rfl (br_t k1 hp))))⟩⟩
      · by_cases k2 : 8 ≤ v2
        · have k3 : (7 : Int32) < v2 := Int32.lt_of_lt_of_le (by decide) k2
          exact ⟨0, fun q hq => br_f (by decide) (br_f (by decide) (br_t rfl (br_f k1 (br_t k2 hq)))), Or.inl ⟨rfl, fun post hp => Y1 post (br_f h0 (br_t h19 (br_t rfl (br_f k1 (br_t k3 hp)))))⟩⟩
        · have k3 : ¬ (7 : Int32) < v2 := by
            obtain ⟨j, j1, j2⟩ := nI_of k1
            rw [j2] at k2 ⊢
            intro h
            have a1 := (nI_ltI (a := 7) (b := j) (by omega) j1).mp h
            exact k2 (nI_le (a := 8) (by omega) j1)
          exact ⟨1, fun q hq => br_f (by decide) (br_f (by decide) (br_t rfl (br_f k1 (br_f k2 hq)))), Or.inr ⟨rfl, ⟨8, by omega, rfl, fun h => by omega, fun h => by omega⟩, fun post hp => Y1 post (br_f h0 (br_t h19 (br_t rfl (br_f k1 (br_f k3 (br_f (by decide) (br_f (by decide) hp)))))))⟩⟩
    by_cases c9 : o = 9
    · subst c9
      obtain ⟨z, zX, zY, zz⟩ := bd_scope (dep := dep) (fu := fu) (xF := xF) (xV := xV) (xC := xC) (xs := xs) (ph := ph) (cr := cr) (ec := ec) (en := en) (ft := ft) (bt := bt) (pr := pr) (fn := fn) (fe := fe) (vn := vn) (vo := vo) (vv := vv) (xst := xst) (xf := xf) (xr := xr) (xh := xh) (xc := xc) (fN := fN) (fX := fX) (fS := fS) (fT := fT) (fL := fL) (pv := pv) (ys := ys) (yft := yft) (res := res) (yer := yer) (ypl := ypl) (rn := rn) (hs := hs) (gv := gv) (gt := gt) (wn := wn) (wu := wu) (gn := gn) (ge := ge) (wv := wv) (yl := yl) (ya := ya) (ye := ye) (yk := yk) (yt := yt) (yc := yc) (yst := yst) (yf := yf) (yr := yr) (ou := ou) hG v2
      rcases zz with ⟨rfl, z1⟩ | ⟨rfl, z1⟩
      · exact ⟨0, fun q hq => br_f (by decide) (br_f (by decide) (br_f (by decide) (br_t rfl (zX _ ⟨rfl, hq⟩)))), Or.inl ⟨rfl, fun post hp => Y1 post (br_f h0 (br_t h19 (br_f (by decide) (br_t rfl (zY _ (br_t rfl hp))))))⟩⟩
      · exact ⟨1, fun q hq => br_f (by decide) (br_f (by decide) (br_f (by decide) (br_t rfl (zX _ ⟨rfl, hq⟩)))), Or.inr ⟨rfl, ⟨9, by omega, rfl, fun h => by omega, fun _ => z1⟩, fun post hp => Y1 post (br_f h0 (br_t h19 (br_f (by decide) (br_t rfl (zY _ (br_f (by decide) (br_f (by decide) hp)))))))⟩⟩
    by_cases c10 : o = 10
    · subst c10
      have X1 : ∀ q : Int32 → Prop, ((v3 < 0 → (q 0)) ∧ (¬ v3 < 0 → (((3 < v3 → (q 0)) ∧ (¬ 3 < v3 → (((v2 < 0 → (q 0)) ∧ (¬ v2 < 0 → ((((8 - v3) < v2 → (q 0)) ∧ (¬ (8 - v3) < v2 → (q 1))))))))))))  → wpX_operandsFit q ((nI dep), (nI fu), (nI N), (nI L), xF, xV, xC, xs, ph, cr, ec, en, ft, bt, pr, op, a, b, xp, fi, xl, nx, xo, fn, fe, vn, vo, vv, xst, xf, xr, xh, xc, fN, fX, fS, fT, fL, pv) (nI 10) v2 v3 := fun q h => br_f (by decide) (br_f (by decide) (br_f (by decide) (br_f (by decide) (br_t rfl h))))
      have Y2 : ∀ post : Int32 → SY → Prop, ((v3 < 0 → (post 0 ((nI dep), (nI fu), (nI N), (cb_i L st), (nI L), xV, xF, xC, ys, yft, bt, res, yer, ypl, pr, rn, hs, gv, gt, op, a, b, pa, fi, nx, yp, wn, wu, gn, ge, wv, yl, ya, ye, yk, yt, yc, yst, yf, yr, ou))) ∧ (¬ v3 < 0 → (((3 < v3 → (post 0 ((nI dep), (nI fu), (nI N), (cb_i L st), (nI L), xV, xF, xC, ys, yft, bt, res, yer, ypl, pr, rn, hs, gv, gt, op, a, b, pa, fi, nx, yp, wn, wu, gn, ge, wv, yl, ya, ye, yk, yt, yc, yst, yf, yr, ou))) ∧ (¬ 3 < v3 → (((v2 < 0 → (post 0 ((nI dep), (nI fu), (nI N), (cb_i L st), (nI L), xV, xF, xC, ys, yft, bt, res, yer, ypl, pr, rn, hs, gv, gt, op, a, b, pa, fi, nx, yp, wn, wu, gn, ge, wv, yl, ya, ye, yk, yt, yc, yst, yf, yr, ou))) ∧ (¬ v2 < 0 → (((v2 ≤ (8 - v3) → (wY_open_89 post (nI 10) v2 v3 (nI dep) (nI fu) (nI N) (cb_i L st) (nI L) xV xF xC ys yft bt res yer ypl pr rn hs gv gt op a b pa fi nx yp wn wu gn ge wv yl ya ye yk yt yc yst yf yr ou)) ∧ (¬ v2 ≤ (8 - v3) → (post 0 ((nI dep), (nI fu), (nI N), (cb_i L st), (nI L), xV, xF, xC, ys, yft, bt, res, yer, ypl, pr, rn, hs, gv, gt, op, a, b, pa, fi, nx, yp, wn, wu, gn, ge, wv, yl, ya, ye, yk, yt, yc, yst, yf, yr, ou))))))))))))) → wpY_open post ((nI dep), (nI fu), (nI N), (cb_i L st), (nI L), xV, xF, xC, ys, yft, bt, res, yer, ypl, pr, rn, hs, gv, gt, op, a, b, pa, fi, nx, yp, wn, wu, gn, ge, wv, yl, ya, ye, yk, yt, yc, yst, yf, yr, ou) (nI 10) v2 v3 := fun post h => Y1 post (br_f h0 (br_t h19 (br_f (by decide) (br_f (by decide) (br_t rfl h)))))
      by_cases k1 : v3 < 0
      · exact ⟨0, fun q hq => X1 q (br_t k1 hq), Or.inl ⟨rfl, fun post hp => Y2 post (br_t k1 hp)⟩⟩
      · by_cases k2 : 3 < v3
        · exact ⟨0, fun q hq => X1 q (br_f k1 (br_t k2 hq)), Or.inl ⟨rfl, fun post hp => Y2 post (br_f k1 (br_t k2 hp))⟩⟩
        · by_cases k3 : v2 < 0
          · exact ⟨0, fun q hq => X1 q (br_f k1 (br_f k2 (br_t k3 hq))), Or.inl ⟨rfl, fun post hp => Y2 post (br_f k1 (br_f k2 (br_t k3 hp)))⟩⟩
          · by_cases k4 : 8 - v3 < v2
            · exact ⟨0, fun q hq => X1 q (br_f k1 (br_f k2 (br_f k3 (br_t k4 hq)))), Or.inl ⟨rfl, fun post hp => Y2 post (br_f k1 (br_f k2 (br_f k3 (br_f (Int32.not_le.mpr k4) hp))))⟩⟩
            · refine ⟨1, fun q hq => X1 q (br_f k1 (br_f k2 (br_f k3 (br_f k4 hq)))), Or.inr ⟨rfl, ⟨10, by omega, rfl, fun _ => ?_, fun h => by omega⟩, fun post hp => Y2 post (br_f k1 (br_f k2 (br_f k3 (br_t (Int32.not_lt.mp k4) hp))))⟩⟩
              obtain ⟨q, q1, q2⟩ := nI_of k1
              obtain ⟨p, p1, p2⟩ := nI_of k3
              have q3 : q ≤ 3 := by
                rw [q2] at k2
                rcases Nat.lt_or_ge 3 q with h | h
                · exact absurd (nI_lt (a := 3) h q1) k2
                · exact h
              refine ⟨p, q, p2, q2, q3, ?_⟩
              have e8 : (8 : Int32) - nI q = nI (8 - q) := by
                show nI 8 - nI q = _
                exact pk_sub (by omega)
              rw [p2, q2, e8] at k4
              rcases Nat.lt_or_ge (8 - q) p with h | h
              · exact absurd (nI_lt h p1) k4
              · omega
    · have X1 : ∀ q : Int32 → Prop, q 1 → wpX_operandsFit q ((nI dep), (nI fu), (nI N), (nI L), xF, xV, xC, xs, ph, cr, ec, en, ft, bt, pr, op, a, b, xp, fi, xl, nx, xo, fn, fe, vn, vo, vv, xst, xf, xr, xh, xc, fN, fX, fS, fT, fL, pv) (nI o) v2 v3 := by
        intro q hq
        rcases Nat.lt_or_ge o 8 with h | h
        · exact br_t (nI_lt (b := 8) h (by omega)) (br_f h0 (br_f h19' hq))
        · exact br_f (nI_nlt (b := 8) h (by omega)) (br_t (nI_lt (a := 10) (by omega) (by omega)) (br_f h0 (br_f h19' hq)))
      exact ⟨1, X1, Or.inr ⟨rfl, ⟨o, ho, rfl, fun h => absurd h c10, fun h => absurd h c9⟩, fun post hp => Y1 post (br_f h0 (br_t h19 (br_f (ne 8 (by omega) (by omega)) (br_f (ne 9 (by omega) (by omega)) (br_f (ne 10 (by omega) (by omega)) hp)))))⟩⟩
theorem i_vc_close {k : Nat} {u : SX} {v : SY} (I : i_Rel k u v) (hk : k + 4 ≤ 2050) : wpX_close (fun r u' => wpY_close (fun r' v' => r' = r ∧ i_Rel (k + 4) u' v') v) u := by
  have J := i_up I
  obtain ⟨dep, fu, L, N, st, oc, pc, E, lv, kd, SC, xF, xV, xC, xs, ph, cr, ec, en, ft, bt, pr, op, a, b, xp, fi, xl, nx, xo, fn, fe, vn, vo, vv, xst, xf, xr, xh, xc, fN, fX, fS, fT, fL, pv, ys, yft, res, yer, ypl, rn, hs, gv, gt, pa, yp, wn, wu, gn, ge, wv, yl, ya, ye, yk, yt, yc, yst, yf, yr, ou, rfl, rfl, h1, hG, h3⟩ := I
  rcases Nat.eq_zero_or_pos L with h0 | h0
  · subst h0
    exact br_t rfl (br_t (show cb_i 0 st < 0 from (by decide : (-1 : Int32) < 0)) ⟨rfl, J⟩)
  · obtain ⟨l, rfl⟩ : ∃ l, L = l + 1 := ⟨L - 1, by omega⟩
    have hG' := hG
    obtain ⟨⟨g1, g2, g3, g4⟩, g5, g6, g7, g8⟩ := hG
    obtain ⟨e1, e2, e3, e4, e5, e6, e7, e8⟩ := g5 l (by omega)
    have hinj : ∀ i, i + 1 < l + 1 → st i ≠ st l := fun i hi e => by have := e6 i (by omega); omega
    have hxp := (g7 (st l) e1).2.1 hinj
    have hyp := (g7 (st l) e1).1
    have nd := g6 (st l) e1
    have hop := nd.1.2.1
    have hpn := nd.1.2.2.2
    have hmx : ct_mx (oc (st l)) ≤ 96 := by unfold ct_mx; split <;> (try split) <;> (try split) <;> (try split) <;> (try split) <;> omega
    have hmn : ct_mn (oc (st l)) ≤ 96 := by unfold ct_mn; split <;> (try split) <;> omega
    have hci : cb_i (l + 1) st = nI (st l) := by unfold cb_i; rw [if_neg (by omega), Nat.add_sub_cancel]
    have el := nc_ (n := l) (by omega)
    have em := nc_ (n := st l) (by omega)
    have wm := vi_ (n := st l) (N := 96) (by omega) (by omega)
    rw [hci] at J ⊢
    refine br_f (nI_ne0 (by omega) (by omega)) ?_
    rw [nI_pred, el, e2]
    refine ⟨vi_ (by omega) (by omega), nm_e ⟨wm, wm, ?_⟩⟩
    rw [em, hop, hxp]
    refine x_need e4 (pk_le (ct_mn (oc (st l))) (pc (st l)) (fun hle => ?_) (fun hlt => ?_))
    · have Yc : ∀ (post : Int32 → SY → Prop), post 1 ((nI dep), (nI fu), (nI N), (cb_i l st), (nI l), xV, xF, xC, ys, yft, bt, res, yer, ypl, pr, rn, hs, gv, gt, op, a, b, pa, fi, nx, yp, wn, wu, gn, ge, wv, yl, ya, ye, yk, yt, yc, yst, yf, yr, ou) → wpY_close post ((nI dep), (nI fu), (nI N), (nI (st l)), (nI (l + 1)), xV, xF, xC, ys, yft, bt, res, yer, ypl, pr, rn, hs, gv, gt, op, a, b, pa, fi, nx, yp, wn, wu, gn, ge, wv, yl, ya, ye, yk, yt, yc, yst, yf, yr, ou) := by
        intro post KK
        refine br_f (nI_pos (by omega)) ⟨wm, wm, ?_⟩
        rw [em, hop, hyp]
        refine y_few e4 (pk_le (ct_mn (oc (st l))) (pc (st l)) (fun _ => ⟨wm, nm_r (e' := cb_i l st) e3 (nm_r (nI_pred l) KK)⟩) (fun h => by omega))
      refine nm_r (e' := nI l) rfl ?_
      rcases Nat.eq_zero_or_pos l with hl | hl
      · subst hl
        refine x_cnt0 ?_
        refine Yc _ ⟨rfl, ?_⟩
        exact ci_mk (k := k + 4) (L := 0) (st := st) (N := N) ⟨h1, cb_close (xp' := xp) hG' rfl hle rfl, h3⟩
      · obtain ⟨j, rfl⟩ : ∃ j, l = j + 1 := ⟨l - 1, by omega⟩
        obtain ⟨f1, f2, f3, f4, f5, f6, f7, f8⟩ := g5 j (by omega)
        obtain ⟨t1, t2, t3⟩ := f7 (by omega)
        refine x_cnt1 (m := st j) (p := pc (st j) - 1) (by omega) f2 (by omega) t3 ?_
        refine Yc _ ⟨rfl, ?_⟩
        rw [show pc (st j) - 1 + 1 = pc (st j) by omega]
        exact ci_mk (k := k + 4) (L := j + 1) (st := st) (N := N) ⟨h1, cb_close (xp' := upd xp (st j) (nI (pc (st j)))) hG' rfl hle (by rw [if_neg (by omega), Nat.add_sub_cancel]), h3⟩
    · refine br_f (nI_pos (by omega)) ⟨wm, wm, ?_⟩
      rw [em, hop, hyp]
      exact y_few e4 (pk_le (ct_mn (oc (st l))) (pc (st l)) (fun h => by omega) (fun _ => ⟨rfl, J⟩))
end
end
section
section
variable {dep fu L N : Nat} {st oc pc E lv : Nat → Nat} {kd : Nat → Nat → Nat} {SC : Nat → Int32 → Prop} {xF xV xC xs ph : Int32} {cr : Int64} {ec en ft bt pr : Int32} {op a b xp fi xl nx xo fn fe vn vo : Nat → Int32} {vv : Nat → Int64} {xst xf xr xh xc fN fX fS fT : Nat → Int32} {fL pv : Nat → Int64} {ys yft res yer ypl rn hs : Int32} {gv gt : Int64} {pa yp wn wu gn ge : Nat → Int32} {wv : Nat → Int64} {yl ya ye : Nat → Int32} {yk : Nat → Int64} {yt yc yst yf yr : Nat → Int32} {ou : Nat → Int64}
theorem i_vc_open {k : Nat} {u : SX} {v : SY} (I : i_Rel k u v) (hk : k + 4 ≤ 2050) (v1 : Int32) (v2 : Int32) (v3 : Int32) : wpX_open (fun r u' => wpY_open (fun r' v' => r' = r ∧ i_Rel (k + 4) u' v') v v1 v2 v3) u v1 v2 v3 := by
  have J := i_up I
  obtain ⟨dep, fu, L, N, st, oc, pc, E, lv, kd, SC, xF, xV, xC, xs, ph, cr, ec, en, ft, bt, pr, op, a, b, xp, fi, xl, nx, xo, fn, fe, vn, vo, vv, xst, xf, xr, xh, xc, fN, fX, fS, fT, fL, pv, ys, yft, res, yer, ypl, rn, hs, gv, gt, pa, yp, wn, wu, gn, ge, wv, yl, ya, ye, yk, yt, yc, yst, yf, yr, ou, rfl, rfl, h1, hG, h3⟩ := I
  have hG' := hG
  obtain ⟨r, rX, rY, rr⟩ := bd_room hG
  unfold wpX_open
  dsimp only
  rcases rr with rfl | ⟨rfl, hr⟩
  · refine rX _ (br_t rfl ?_)
    unfold wpY_open
    dsimp only
    exact rY _ (br_t rfl ⟨rfl, J⟩)
  · have hL16 := hG.1.2.1
    rcases Nat.lt_or_ge L 16 with hL | hL
    · refine rX _ (br_f (by decide) (br_f (nI_ge (b := 16) hL (by omega)) ?_))
      obtain ⟨z, zX, zz⟩ := bd_fit (v1 := v1) (v2 := v2) (v3 := v3) hG rY hL
      refine zX _ ?_
      rcases zz with ⟨rfl, zY⟩ | ⟨rfl, ⟨o, ho, rfl, o10, o9⟩, zY⟩
      · exact br_t rfl (zY _ ⟨rfl, J⟩)
      · refine br_f (by decide) ?_
        rcases hr with ⟨rfl, rfl⟩ | ⟨l, rfl, hN, hp⟩
        · refine x_add0 (by omega) ?_
          dsimp only
          refine ⟨vi_ (by omega) (by omega), nm_r (e' := upd xo 0 0) rfl (nm_r (e' := nI 1) rfl ?_)⟩
          refine zY _ ?_
          unfold wY_open_89
          refine y_add0 (by omega) ?_
          dsimp only
          refine nm_r (e' := nI 0) rfl (nm_r (e' := nI 1) rfl ⟨rfl, ?_⟩)
          exact ci_mk (k := k + 4) (L := 1) (N := 1) (st := nu_ st 0 0) ⟨h1, cb_open0 (av := v2) (bv := v3) hG ho (fun h => by obtain ⟨i, hi, _⟩ := o9 h; omega) o10, h3⟩
        · obtain ⟨⟨g1, g2, g3, g4⟩, g5, g6, g7, g8⟩ := hG
          obtain ⟨e1, e2, e3, e4, e5, e6, e7, e8⟩ := g5 l (by omega)
          have hyp := (g7 (st l) e1).1
          have nd := g6 (st l) e1
          have hci : cb_i (l + 1) st = nI (st l) := by unfold cb_i; rw [if_neg (by omega), Nat.add_sub_cancel]
          have hkd := nd.2.2.2.2.2.1
          have hG2 := cb_open (o := o) (av := v2) (bv := v3) hG' rfl hN hL hp ho o10 o9 rfl rfl
          have e16 := nc_ (n := l + 1) (by omega)
          refine x_add1 (p := pc (st l)) (z := kd (st l) (pc (st l) - 1)) hN (by omega) e2 (by omega) nd.2.2.2.2.1.1 (fun h => ⟨kd (st l) 0, by have := (hkd 0 h).2.1; omega, nd.2.2.2.2.1.2 h⟩) (fun h => ⟨(g7 (st l) e1).2.2 h, by have := (hkd (pc (st l) - 1) (by omega)).2.1; omega⟩) ?_
          dsimp only
          refine ⟨vi_ (by omega) (by omega), nm_r (e' := upd xo (l + 1) (nI N)) (by rw [e16]) (nm_r (e' := nI (l + 1 + 1)) (nI_1 _) ?_)⟩
          refine zY _ ?_
          unfold wY_open_89
          rw [hci]
          refine y_add1 (p := pc (st l)) (kd := kd (st l)) hN e1 hyp nd.2.2.2.2.1.1 nd.2.2.2.2.1.2 (fun i hi => (hkd i hi).2.1) (fun i hi => ((hkd i (by omega)).2.2.2.2.1 hi).1) (fun h => (hkd (pc (st l) - 1) (by omega)).2.2.2.2.2.1 (by omega)) ?_
          dsimp only
          refine nm_r (e' := nI N) (nI_pred N) (nm_r (e' := nI (l + 1 + 1)) (nI_1 _) ⟨rfl, ?_⟩)
          have := ci_mk (k := k + 4) (L := l + 1 + 1) (N := N + 1) (st := nu_ st (l + 1) N) (dep := dep) (fu := fu) (xF := xF) (xV := xV) (xC := xC) (xs := xs) (ph := ph) (cr := cr) (ec := ec) (en := en) (ft := ft) (bt := bt) (pr := pr) (fn := fn) (fe := fe) (vn := vn) (vo := vo) (vv := vv) (xst := xst) (xf := xf) (xr := xr) (xh := xh) (xc := xc) (fN := fN) (fX := fX) (fS := fS) (fT := fT) (fL := fL) (pv := pv) (ys := ys) (yft := yft) (res := res) (yer := yer) (ypl := ypl) (rn := rn) (hs := hs) (gv := gv) (gt := gt) (wn := wn) (wu := wu) (gn := gn) (ge := ge) (wv := wv) (yl := yl) (ya := ya) (ye := ye) (yk := yk) (yt := yt) (yc := yc) (yst := yst) (yf := yf) (yr := yr) (ou := ou) ⟨h1, hG2, h3⟩
          have hci2 : cb_i (l + 1 + 1) (nu_ st (l + 1) N) = nI N := by unfold cb_i; rw [if_neg (by omega), Nat.add_sub_cancel, nu_s]
          rw [hci2] at this
          exact this
    · obtain rfl : L = 16 := by omega
      refine rX _ (br_f (by decide) (br_t (by decide) ?_))
      unfold wpY_open
      dsimp only
      exact rY _ (br_f (by decide) (br_t rfl ⟨rfl, J⟩))
end
end
section
section
variable {yd yg yN yi yo yV yF yC ys yft ybt res yer ypl ypr rn hs : Int32} {gv gt : Int64} {op a b pa fi nx yp wn wu gn ge : Nat → Int32} {wv : Nat → Int64} {yl ya ye : Nat → Int32} {yk : Nat → Int64} {yt yc yst yf yr : Nat → Int32} {ou : Nat → Int64}
/-- the reference clears its strands -/
theorem y_r33 : ∀ d i, i + d = 7 → ∀ yt yc yst : Nat → Int32, (∀ r, r < i → yt r = 0 ∧ yc r = 0) → ∃ yt' yc' yst' : Nat → Int32, (∀ r, r < 7 → yt' r = 0 ∧ yc' r = 0) ∧ ∀ (post : Int32 → SY → Prop) (f : Nat), wpY_evaluate (fun u => ∃ n, yl_ post n u) (yd, yg, yN, yi, yo, yV, yF, yC, 0, 0, 0, 0, 0, (-1), 0, 1, 0, gv, gt, op, a, b, pa, fi, nx, yp, wn, wu, gn, ge, wv, yl, ya, ye, yk, yt', yc', yst', yf, yr, ou) 0 (-1) → wY_run_33 post yd yg yN yi yo yV yF yC ys yft ybt res yer ypl ypr rn hs gv gt (f + d + 1) (nI i) op a b pa fi nx yp wn wu gn ge wv yl ya ye yk yt yc yst yf yr ou := by
  intro d
  induction d with
  | zero =>
    intro i hi yt yc yst h
    obtain rfl : i = 7 := by omega
    exact ⟨yt, yc, yst, h, fun post f KK => br_t (by decide) KK⟩
  | succ d ih =>
    intro i hi yt yc yst h
    have e := nc_ (n := i) (by omega)
    have w := vi_ (n := i) (N := 7) (by omega) (by omega)
    obtain ⟨yt', yc', yst', g1, g2⟩ := ih (i + 1) (by omega) (upd yt i 0) (upd yc i 0) (upd yst i 0) (fun r hr => by
      by_cases hri : r = i
      · rw [hri, pk_us, pk_us]; exact ⟨rfl, rfl⟩
      · rw [pk_un hri, pk_un hri]; exact h r (by omega))
    refine ⟨yt', yc', yst', g1, fun post f KK => br_f (nI_ge (b := 7) (by omega) (by omega)) ⟨w, nm_r (e' := upd yt i 0) (by rw [e]) ⟨w, nm_r (e' := upd yc i 0) (by rw [e]) ⟨w, nm_r (e' := upd yst i 0) (by rw [e]) (nm_r (nI_1 i) ?_)⟩⟩⟩⟩
    exact g2 post f KK
end
section
variable {dep fu L N : Nat} {st oc pc E lv : Nat → Nat} {kd : Nat → Nat → Nat} {SC : Nat → Int32 → Prop} {xF xV xC xs ph : Int32} {cr : Int64} {ec en ft bt pr : Int32} {op a b xp fi xl nx xo fn fe vn vo : Nat → Int32} {vv : Nat → Int64} {xst xf xr xh xc fN fX fS fT : Nat → Int32} {fL pv : Nat → Int64} {ys yft res yer ypl rn hs : Int32} {gv gt : Int64} {pa yp wn wu gn ge : Nat → Int32} {wv : Nat → Int64} {yl ya ye : Nat → Int32} {yk : Nat → Int64} {yt yc yst yf yr : Nat → Int32} {ou : Nat → Int64}
theorem cr_fin {k : Nat} {u : SX} {v : SY} (h1 : 1 ≤ dep ∧ dep ≤ 6 ∧ fu ≤ 200) (hG : (cb_G L st N oc pc E lv kd SC op a b fi nx xp xl xo pa yp)) (hE : cr_E op a b fi nx pa dep fu (nI N) (nI L) xp xl xo (nI N) (cb_i L st) (nI L) yp u v) : i_Rel k u v := by
  obtain ⟨F, C, V, s, q, w, ph, ec, en, ft, res, yer, ypl, hs, cr, gv, gt, fn, fe, vn, vo, vv, xst, xf, xr, xh, xc, fN, fX, fS, fT, fL, pv, wn, wu, gn, ge, wv, yl, ya, ye, yk, yt, yc, yst, yf, yr, ou, rfl, rfl, e1, e2, e3, e4, ⟨p, p1, p2, p3, p4, p5, p6⟩, e6⟩ := hE
  exact ci_mk (k := k) (L := L) (N := N) (st := st) (bt := nI q) (pr := nI w) (xF := nI F) (xV := nI V) (xC := nI C) ⟨h1, hG, ⟨p, p1, p2, p3, fun h => cv_mono e1 e2 (p4 h), p5, p6⟩, w, e3, rfl, fun j h2 h3 => cv_mono e1 e2 (e6 j h2 h3)⟩
theorem i_vc_run {k : Nat} {u : SX} {v : SY} (I : i_Rel k u v) (hk : k + 4 ≤ 2050) : wpX_run (fun r u' => wpY_run (fun r' v' => r' = r ∧ i_Rel (k + 4) u' v') v) u := by
  have J := i_up I
  obtain ⟨dep, fu, L, N, st, oc, pc, E, lv, kd, SC, xF, xV, xC, xs, ph, cr, ec, en, ft, bt, pr, op, a, b, xp, fi, xl, nx, xo, fn, fe, vn, vo, vv, xst, xf, xr, xh, xc, fN, fX, fS, fT, fL, pv, ys, yft, res, yer, ypl, rn, hs, gv, gt, pa, yp, wn, wu, gn, ge, wv, yl, ya, ye, yk, yt, yc, yst, yf, yr, ou, rfl, rfl, h1, hG, h3⟩ := I
  have hG' := hG
  obtain ⟨⟨g1, g2, g3, g4⟩, g5, g6, g7, g8⟩ := hG
  unfold wpX_run
  dsimp only
  rcases Nat.eq_zero_or_pos N with hN | hN
  · subst hN
    refine br_t (by decide) (br_t rfl ?_)
    exact br_t rfl ⟨rfl, J⟩
  have nN := nI_ne0 hN (show N < 2147483648 by omega)
  rcases Nat.eq_zero_or_pos L with hL | hL
  · subst hL
    refine br_f (nI_nle hN (by omega)) (br_t rfl (br_f (by decide) ?_))
    refine nm_r (e' := upd xh 0 0) rfl (nm_r (e' := upd xc 0 0) rfl ?_)
    have hcl : (fun m => ∀ i, i < 0 → st i ≠ m) = (fun _ : Nat => True) := funext fun m => propext ⟨fun _ => trivial, fun _ i hi => by omega⟩
    have ht : (ct_all op a b fi nx pa N oc pc E lv kd SC) := by
      refine ⟨hN, g1, (g4 hN).1, (g4 hN).2, fun n hn => ?_⟩
      have := g6 n hn
      rw [hcl] at this
      exact this
    have hyp : ∀ n, n < N → xp n = nI (pc n) ∧ yp n = nI (pc n) := fun n hn => ⟨(g7 n hn).2.1 (fun i hi => by omega), (g7 n hn).1⟩
    obtain ⟨yt', yc', yst', t1, t2⟩ := y_r33 (yd := nI dep) (yg := nI fu) (yN := nI N) (yi := cb_i 0 st) (yo := nI 0) (yV := 0) (yF := 0) (yC := 0) (ys := ys) (yft := yft) (ybt := bt) (res := res) (yer := yer) (ypl := ypl) (ypr := pr) (rn := rn) (hs := hs) (gv := gv) (gt := gt) (op := op) (a := a) (b := b) (pa := pa) (fi := fi) (nx := nx) (yp := yp) (wn := wn) (wu := wu) (gn := gn) (ge := ge) (wv := wv) (yl := yl) (ya := ya) (ye := ye) (yk := yk) (yf := yf) (yr := yr) (ou := ou) 7 0 (by omega) yt yc yst (fun r hr => by omega)
    have hP0 : sm_ (fun r => if r = 0 then 400 else 0) 7 = 400 := rfl
    have hE0 := ct_E ht hN
    have hCC : cc_C N oc pc E lv kd a b SC 0 0 0 (fun _ _ => False) (fun _ _ => 0) (fun _ _ => 0) fN fX fS fT fL yl ya ye yk (fun r => if r = 0 then 400 else 0) (fun _ => 0) dep (upd xh 0 0) (upd xc 0 0) yt' yc' fn fe gn ge vn vo vv wn wu wv xst xf xr yst' yf yr (fun _ => 0) 0 0 0 :=
      ⟨⟨by omega, by omega, by omega, h1.2.1, h1.1, rfl⟩, fun _ => rfl, ⟨fun c h => h, fun v hv => by omega⟩, fun f hf => by omega, ⟨rfl, fun i j hi hj _ => by omega, fun i hi1 hi => by omega, fun i hi => by omega⟩, fun i hi => by omega, fun c hc1 hc => by omega, fun c hc1 hc => t1 c hc, fun j hj => by omega⟩
    obtain ⟨u1, u2, v2, j, e1, e2, e3, φ', e4, e5⟩ := ev_all (m := 0) (e := 0) (F := 0) (C := 0) (V := 0) (q := 0) (w := 0) (φ := 400 * (fu - 0) + 400) (xN := nI N) (xL := nI 0) (xp := xp) (xl := xl) (xo := xo) (yN := nI N) (yi := cb_i 0 st) (yo := nI 0) (yp := yp) (fu := fu) (ec := ec) (en := en) (ft := 0) (cr := cr) (gv := gv) (gt := gt) (pv := pv) (ou := ou) ht hyp hCC (by omega) pk_us (t1 0 (by omega)).1 pk_us (t1 0 (by omega)).2 (fun h => by omega) ⟨⟨by omega, h1.2.2, by rw [hP0], by omega⟩, fun j hj1 hj2 => by omega⟩ hN (by omega) (fun c hc => absurd hc ((g4 hN).2 c)) (by have := (g4 hN).1; omega) (by show 0 + 4 * (E 0 - 0) ≤ 400; omega)
    refine e1 _ ?_
    have fin : ∃ n, xl_ (fun r u' => wpY_run (fun r' v' => r' = r ∧ i_Rel (k + 4) u' v') ((nI dep), (nI fu), (nI N), (cb_i 0 st), (nI 0), xV, xF, xC, ys, yft, bt, res, yer, ypl, pr, rn, hs, gv, gt, op, a, b, pa, fi, nx, yp, wn, wu, gn, ge, wv, yl, ya, ye, yk, yt, yc, yst, yf, yr, ou)) n (nI 0) u1 := by
      refine ⟨φ' + 1 + j, e2 _ (φ' + 1) 0 (by omega) ?_⟩
      refine run_main ht hyp φ' u2 v2 e5 (0 + j) (φ' + 1) _ (by omega) (by omega) (fun u' v' hE hY => ?_)
      have hI := cr_fin (k := k + 4) h1 hG' hE
      refine br_f nN (br_t (show cb_i 0 st < 0 from (by decide : (-1 : Int32) < 0)) ⟨0 + 7 + 1, t2 _ 0 (e3 _ ?_)⟩)
      exact hY _ ⟨rfl, hI⟩
    obtain ⟨_, _, _, _, _, _, _, _, _, _, _, _, _, _, _, _, _, _, _, _, _, _, _, _, _, _, _, _, _, _, _, _, _, _, _, _, _, _, _⟩ := u1
    exact fin
  · refine br_f (nI_nle hN (by omega)) (br_f (nI_ne0 hL (by omega)) (br_t rfl ?_))
    refine br_f nN (br_f ?_ ⟨rfl, J⟩)
    unfold cb_i
    rw [if_neg (by omega)]
    exact nI_pos (by have := (g5 (L - 1) (by omega)).1; omega)
end
end
section
section
variable {dep fu L N : Nat} {st oc pc E lv : Nat → Nat} {kd : Nat → Nat → Nat} {SC : Nat → Int32 → Prop} {xF xV xC xs ph : Int32} {cr : Int64} {ec en ft bt pr : Int32} {op a b xp fi xl nx xo fn fe vn vo : Nat → Int32} {vv : Nat → Int64} {xst xf xr xh xc fN fX fS fT : Nat → Int32} {fL pv : Nat → Int64} {ys yft res yer ypl rn hs : Int32} {gv gt : Int64} {pa yp wn wu gn ge : Nat → Int32} {wv : Nat → Int64} {yl ya ye : Nat → Int32} {yk : Nat → Int64} {yt yc yst yf yr : Nat → Int32} {ou : Nat → Int64}
theorem ci_ans {k : Nat} {u : SX} {v : SY} (I : i_Rel k u v) {RR : Prop} (J : RR) : (wpX_kind (fun r => wpY_kind (fun r' => r' = r ∧ RR) v) u) ∧ (wpX_value (fun r => wpY_value (fun r' => r' = r ∧ RR) v) u) ∧ (wpX_error (fun r => wpY_error (fun r' => r' = r ∧ RR) v) u) ∧ (wpX_place (fun r => wpY_place (fun r' => r' = r ∧ RR) v) u) ∧ (wpX_beats (fun r => wpY_beats (fun r' => r' = r ∧ RR) v) u) ∧ (wpX_printed (fun r => wpY_printed (fun r' => r' = r ∧ RR) v) u) ∧ (∀ v1 : Int32, wpX_made (fun r => wpY_made (fun r' => r' = r ∧ RR) v v1) u v1) ∧ (∀ v1 : Int32, wpX_output (fun r => wpY_output (fun r' => r' = r ∧ RR) v v1) u v1) := by
  obtain ⟨dep, fu, L, N, st, oc, pc, E, lv, kd, SC, xF, xV, xC, xs, ph, cr, ec, en, ft, bt, pr, op, a, b, xp, fi, xl, nx, xo, fn, fe, vn, vo, vv, xst, xf, xr, xh, xc, fN, fX, fS, fT, fL, pv, ys, yft, res, yer, ypl, rn, hs, gv, gt, pa, yp, wn, wu, gn, ge, wv, yl, ya, ye, yk, yt, yc, yst, yf, yr, ou, rfl, rfl, h1, hG, ⟨p, p1, rfl, rfl, p4, p5, p6⟩, w, w1, rfl, w3⟩ := I
  refine ⟨?_, ?_, ?_, ?_, ?_, ?_, fun v1 => ?_, fun v1 => ?_⟩
  · rcases Nat.eq_zero_or_pos p with h0 | h0
    · subst h0
      refine br_t rfl ?_
      rcases cv_cases (by omega) (p4 rfl) with ⟨n, hn, rfl, rfl⟩ | ⟨rfl, rfl⟩ | ⟨f, hf, rfl, rfl⟩ | ⟨c, hc, rfl, rfl⟩
      · refine x_kind (by omega) ?_
        rw [show (n + 4294967296) / 4294967296 = 1 by omega]
        exact br_t rfl (br_f (fun h => absurd ((vo_le (c := 4294967296) (by omega) (by omega)).mp h) (by omega)) ⟨rfl, J⟩)
      · refine x_kind (by omega) ?_
        exact br_t rfl (br_t ((vo_le (c := 4294967296) (by omega) (by omega)).mpr (Nat.le_refl _)) (br_t rfl ⟨rfl, J⟩))
      · refine x_kind (by omega) ?_
        rw [show (8589934592 + f) / 4294967296 = 2 by omega]
        exact br_t rfl (br_t ((vo_le (c := 4294967296) (by omega) (by omega)).mpr (by omega)) (br_f (fun h => absurd ((vo_eq (y := 4294967296) (by omega) (by omega)).mp h) (by omega)) (br_f (fun h => absurd ((vo_le (c := 12884901888) (by omega) (by omega)).mp h) (by omega)) ⟨rfl, J⟩)))
      · refine x_kind (by omega) ?_
        rw [show (12884901888 + c + 1) / 4294967296 = 3 by omega]
        exact br_t rfl (br_t ((vo_le (c := 4294967296) (by omega) (by omega)).mpr (by omega)) (br_f (fun h => absurd ((vo_eq (y := 4294967296) (by omega) (by omega)).mp h) (by omega)) (br_t ((vo_le (c := 12884901888) (by omega) (by omega)).mpr (by omega)) ⟨rfl, J⟩)))
    · have hn := nI_ne0 h0 (show p < 2147483648 by omega)
      exact br_f hn (br_f hn ⟨rfl, J⟩)
  · rcases Nat.eq_zero_or_pos p with h0 | h0
    · subst h0
      refine br_t rfl ?_
      rcases xy_num (by omega) (by omega) (p4 rfl) with ⟨n, c1, rfl, rfl, c4, c5⟩ | ⟨c4, c5⟩
      · refine c4 _ (br_f (by decide) ?_)
        refine br_t rfl (br_f (fun h => absurd ((vo_le (c := 4294967296) (by omega) (by omega)).mp h) (by omega)) ⟨?_, J⟩)
        rw [vo_i1, lN_i]
      · refine c4 _ (br_t rfl ?_)
        have h5 := c5 (fun r => r = 0) ((nI dep), (nI fu), (nI N), (cb_i L st), (nI L), xV, xF, xC, ys, yft, bt, (nI 0), yer, ypl, (nI w), rn, hs, gv, gt, op, a, b, pa, fi, nx, yp, wn, wu, gn, ge, wv, yl, ya, ye, yk, yt, yc, yst, yf, yr, ou) rfl
        refine br_t rfl (br_t ?_ ⟨rfl, J⟩)
        by_cases h6 : 4294967296 ≤ gv
        · exact h6
        · exact absurd (h5.2 h6) (by decide)
    · have hn := nI_ne0 h0 (show p < 2147483648 by omega)
      exact br_f hn (br_f hn ⟨rfl, J⟩)
  · by_cases h0 : p = 1
    · subst h0
      exact br_t rfl ⟨(p5 rfl).1, J⟩
    · exact br_f (fun h => h0 ((nI_eq (a := p) (b := 1) (by omega) (by omega)).mp h)) ⟨(p6 h0).1, J⟩
  · by_cases h0 : p = 1
    · subst h0
      exact br_t rfl ⟨(p5 rfl).2, J⟩
    · exact br_f (fun h => h0 ((nI_eq (a := p) (b := 1) (by omega) (by omega)).mp h)) ⟨(p6 h0).2, J⟩
  · exact ⟨rfl, J⟩
  · exact ⟨rfl, J⟩
  · rcases pk_ix v1 (n := 3) (by omega) with h | h | ⟨j, hj, rfl⟩
    · exact br_t h (br_f (fun z => by subst z; exact absurd h (by decide)) (br_f (fun z => by subst z; exact absurd h (by decide)) (br_f (fun z => by subst z; exact absurd h (by decide)) ⟨rfl, J⟩)))
    · have h2 : (2 : Int32) < v1 := Int32.lt_of_lt_of_le (by decide) h
      exact br_f (Int32.not_lt.mpr (Int32.le_of_lt (Int32.lt_trans (by decide) h2))) (br_t h2 (br_f (fun z => by subst z; exact absurd h2 (by decide)) (br_f (fun z => by subst z; exact absurd h2 (by decide)) (br_f (fun z => by subst z; exact absurd h2 (by decide)) ⟨rfl, J⟩))))
    · have hc : j = 0 ∨ j = 1 ∨ j = 2 := by omega
      rcases hc with rfl | rfl | rfl
      · exact br_f (by decide) (br_f (by decide) (br_t rfl (br_t rfl ⟨rfl, J⟩)))
      · exact br_f (by decide) (br_f (by decide) (br_f (by decide) (br_t rfl (br_f (by decide) (br_t rfl ⟨rfl, J⟩)))))
      · exact br_f (by decide) (br_f (by decide) (br_f (by decide) (br_f (by decide) (br_t rfl (br_f (by decide) (br_f (by decide) (br_t rfl ⟨rfl, J⟩)))))))
  · by_cases h0 : v1 < 0
    · exact br_t h0 (br_t h0 ⟨rfl, J⟩)
    · obtain ⟨j, j1, rfl⟩ := nI_of h0
      refine br_f h0 ?_
      rcases Nat.lt_or_ge j w with hw | hw
      · have hx : ¬ nI w ≤ nI j := nI_ge hw (by omega)
        refine br_f hx ?_
        rcases Nat.lt_or_ge j 24 with h24 | h24
        · have e := nc_ (n := j) (by omega)
          have w24 := vi_ (n := j) (N := 24) h24 (by omega)
          refine br_t (nI_lt (b := 24) h24 (by omega)) ⟨w24, nm_r (e' := pv j) (by rw [e]) ?_⟩
          have Yc : ∀ (post : Int64 → Prop), ((4294967296 ≤ ou j → (((ou j = 4294967296 → (post 4294967296)) ∧ (¬ ou j = 4294967296 → (((12884901888 ≤ ou j → (post 4294967298)) ∧ (¬ 12884901888 ≤ ou j → (post 4294967297)))))))) ∧ (¬ 4294967296 ≤ ou j → (post (ou j).toInt32.toInt64))) → wpY_output post ((nI dep), (nI fu), (nI N), (cb_i L st), (nI L), xV, xF, xC, ys, yft, bt, (nI p), yer, ypl, (nI w), rn, hs, gv, gt, op, a, b, pa, fi, nx, yp, wn, wu, gn, ge, wv, yl, ya, ye, yk, yt, yc, yst, yf, yr, ou) (nI j) := by
            intro post h
            exact br_f h0 (br_f (nI_nlt (a := 23) (by omega) (by omega)) (br_t (nI_lt hw (by omega)) ⟨w24, nm_r (e' := ou j) (by rw [e]) h⟩))
          have hv := w3 j h24 hw
          generalize hx1 : pv j = x at hv
          generalize hy1 : ou j = y at hv Yc
          rcases cv_cases (by omega) hv with ⟨n, hn, rfl, rfl⟩ | ⟨rfl, rfl⟩ | ⟨f, hf, rfl, rfl⟩ | ⟨c, hc, rfl, rfl⟩
          · refine x_kind (by omega) ?_
            rw [show (n + 4294967296) / 4294967296 = 1 by omega]
            refine br_f (by decide) (br_f (by decide) (br_f (by decide) (br_t rfl (Yc _ (br_f (fun h => absurd ((vo_le (c := 4294967296) (by omega) (by omega)).mp h) (by omega)) ⟨?_, J⟩)))))
            rw [vo_i1, lN_i]
          · refine x_kind (by omega) ?_
            exact br_f (by decide) (br_f (by decide) (br_t rfl (Yc _ (br_t ((vo_le (c := 4294967296) (by omega) (by omega)).mpr (Nat.le_refl _)) (br_t rfl ⟨rfl, J⟩)))))
          · refine x_kind (by omega) ?_
            rw [show (8589934592 + f) / 4294967296 = 2 by omega]
            exact br_f (by decide) (br_f (by decide) (br_f (by decide) (br_f (by decide) (br_t rfl (Yc _ (br_t ((vo_le (c := 4294967296) (by omega) (by omega)).mpr (by omega)) (br_f (fun h => absurd ((vo_eq (y := 4294967296) (by omega) (by omega)).mp h) (by omega)) (br_f (fun h => absurd ((vo_le (c := 12884901888) (by omega) (by omega)).mp h) (by omega)) ⟨rfl, J⟩))))))))
          · refine x_kind (by omega) ?_
            rw [show (12884901888 + c + 1) / 4294967296 = 3 by omega]
            exact br_f (by decide) (br_f (by decide) (br_f (by decide) (br_f (by decide) (br_f (by decide) (br_t rfl (Yc _ (br_t ((vo_le (c := 4294967296) (by omega) (by omega)).mpr (by omega)) (br_f (fun h => absurd ((vo_eq (y := 4294967296) (by omega) (by omega)).mp h) (by omega)) (br_t ((vo_le (c := 12884901888) (by omega) (by omega)).mpr (by omega)) ⟨rfl, J⟩)))))))))
        · exact br_f (nI_nlt (b := 24) h24 (by omega)) (br_f h0 (br_t (nI_lt (a := 23) (by omega) (by omega)) ⟨rfl, J⟩))
      · refine br_t (nI_le hw (by omega)) ?_
        refine br_f h0 ?_
        by_cases h23 : (23 : Int32) < nI j
        · exact br_t h23 ⟨rfl, J⟩
        · exact br_f h23 (br_f (nI_nlt hw (by omega)) ⟨rfl, J⟩)
end
end
section
theorem i_vc_kind {k : Nat} {u : SX} {v : SY} (I : i_Rel k u v) (hk : k + 4 ≤ 2050) : wpX_kind (fun r => wpY_kind (fun r' => r' = r ∧ i_Rel (k + 4) u v) v) u := (ci_ans I (i_up I)).1
theorem i_vc_value {k : Nat} {u : SX} {v : SY} (I : i_Rel k u v) (hk : k + 4 ≤ 2050) : wpX_value (fun r => wpY_value (fun r' => r' = r ∧ i_Rel (k + 4) u v) v) u := (ci_ans I (i_up I)).2.1
theorem i_vc_error {k : Nat} {u : SX} {v : SY} (I : i_Rel k u v) (hk : k + 4 ≤ 2050) : wpX_error (fun r => wpY_error (fun r' => r' = r ∧ i_Rel (k + 4) u v) v) u := (ci_ans I (i_up I)).2.2.1
theorem i_vc_place {k : Nat} {u : SX} {v : SY} (I : i_Rel k u v) (hk : k + 4 ≤ 2050) : wpX_place (fun r => wpY_place (fun r' => r' = r ∧ i_Rel (k + 4) u v) v) u := (ci_ans I (i_up I)).2.2.2.1
theorem i_vc_beats {k : Nat} {u : SX} {v : SY} (I : i_Rel k u v) (hk : k + 4 ≤ 2050) : wpX_beats (fun r => wpY_beats (fun r' => r' = r ∧ i_Rel (k + 4) u v) v) u := (ci_ans I (i_up I)).2.2.2.2.1
theorem i_vc_printed {k : Nat} {u : SX} {v : SY} (I : i_Rel k u v) (hk : k + 4 ≤ 2050) : wpX_printed (fun r => wpY_printed (fun r' => r' = r ∧ i_Rel (k + 4) u v) v) u := (ci_ans I (i_up I)).2.2.2.2.2.1
theorem i_vc_output {k : Nat} {u : SX} {v : SY} (I : i_Rel k u v) (hk : k + 4 ≤ 2050) (v1 : Int32) : wpX_output (fun r => wpY_output (fun r' => r' = r ∧ i_Rel (k + 4) u v) v v1) u v1 := (ci_ans I (i_up I)).2.2.2.2.2.2.2 v1
theorem i_vc_made {k : Nat} {u : SX} {v : SY} (I : i_Rel k u v) (hk : k + 4 ≤ 2050) (v1 : Int32) : wpX_made (fun r => wpY_made (fun r' => r' = r ∧ i_Rel (k + 4) u v) v v1) u v1 := (ci_ans I (i_up I)).2.2.2.2.2.2.1 v1
end
