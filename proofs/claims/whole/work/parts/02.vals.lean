/-! values: the reference's number y, the component's number cv_X y -/
def cv_X (y : Nat) : Nat := if y < 4294967296 then y + 4294967296 else if y = 4294967296 then 0 else if y < 12884901888 then y else y + 1
def cv_ok (F C y : Nat) : Prop := y ≤ 4294967296 ∨ (8589934592 ≤ y ∧ y < 8589934592 + F) ∨ (12884901888 ≤ y ∧ y < 12884901888 + C)
def cv_R (F C : Nat) (a b : Int64) : Prop := ∃ y, cv_ok F C y ∧ a = lN (cv_X y) ∧ b = lN y
theorem cv_mono {F C F' C' : Nat} {a b : Int64} (hF : F ≤ F') (hC : C ≤ C') (h : cv_R F C a b) : cv_R F' C' a b := by
  obtain ⟨y, hy, h1, h2⟩ := h
  refine ⟨y, ?_, h1, h2⟩
  rcases hy with h | h | h
  · exact Or.inl h
  · exact Or.inr (Or.inl ⟨h.1, by omega⟩)
  · exact Or.inr (Or.inr ⟨h.1, by omega⟩)
theorem cv_lt {F C y : Nat} (hF : F ≤ 40) (hC : C ≤ 6) (h : cv_ok F C y) : y < 12884901900 := by
  rcases h with h | h | h <;> omega
theorem cv_Xlt {y : Nat} (h : y < 12884901900) : cv_X y < 12884901901 := by
  unfold cv_X; split <;> (try split) <;> (try split) <;> omega
theorem cv_inj {F C y w : Nat} (hF : F ≤ 40) (hC : C ≤ 6) (h : cv_ok F C y) (g : cv_ok F C w) (e : cv_X y = cv_X w) : y = w := by
  unfold cv_X at e; unfold cv_ok at h g
  split at e <;> split at e <;> (try split at e) <;> (try split at e) <;> (try split at e) <;> (try split at e) <;> omega
/-- numbers -/
def cv_n (x : Int32) : Nat := x.toBitVec.toNat
theorem cv_n_lt (x : Int32) : cv_n x < 4294967296 := x.toBitVec.isLt
theorem cv_n_I (x : Int32) : nI (cv_n x) = x := Int32.toBitVec_inj.mp (by show BitVec.ofNat 32 _ = _; simp [cv_n])
theorem cv_nI_mod (n : Nat) : nI (n % 4294967296) = nI n := Int32.toBitVec_inj.mp (by show BitVec.ofNat 32 _ = BitVec.ofNat 32 _; apply BitVec.eq_of_toNat_eq; simp)
theorem cv_n_nI {n : Nat} (h : n < 4294967296) : cv_n (nI n) = n := by
  show (BitVec.ofNat 32 n).toNat = n
  rw [BitVec.toNat_ofNat]; exact Nat.mod_eq_of_lt h
theorem cv_num {F C : Nat} (x : Int32) : cv_R F C (lN (cv_n x + 4294967296)) (lN (cv_n x)) := by
  have h := cv_n_lt x
  refine ⟨cv_n x, Or.inl (by omega), ?_, rfl⟩
  unfold cv_X; rw [if_pos h]
theorem cv_nil {F C : Nat} : cv_R F C 0 4294967296 := ⟨4294967296, Or.inl (by omega), rfl, rfl⟩
theorem cv_fun {F C f : Nat} (hf : f < F) (hF : F ≤ 40) : cv_R F C (lN (8589934592 + f)) (lN (8589934592 + f)) := by
  refine ⟨8589934592 + f, Or.inr (Or.inl ⟨by omega, by omega⟩), ?_, rfl⟩
  unfold cv_X; rw [if_neg (by omega), if_neg (by omega), if_pos (by omega)]
theorem cv_co {F C c : Nat} (hc : c < C) (hC : C ≤ 6) : cv_R F C (lN (12884901888 + c + 1)) (lN (12884901888 + c)) := by
  refine ⟨12884901888 + c, Or.inr (Or.inr ⟨by omega, by omega⟩), ?_, rfl⟩
  unfold cv_X; rw [if_neg (by omega), if_neg (by omega), if_neg (by omega)]
/-- a related pair is a number, nil, a function or a coroutine -/
theorem cv_cases {F C : Nat} {a b : Int64} (hF : F ≤ 40) (h : cv_R F C a b) : (∃ n, n < 4294967296 ∧ a = lN (n + 4294967296) ∧ b = lN n) ∨ (a = lN 0 ∧ b = lN 4294967296) ∨ (∃ f, f < F ∧ a = lN (8589934592 + f) ∧ b = lN (8589934592 + f)) ∨ (∃ c, c < C ∧ a = lN (12884901888 + c + 1) ∧ b = lN (12884901888 + c)) := by
  obtain ⟨y, hy, rfl, rfl⟩ := h
  rcases hy with h | h | h
  · rcases Nat.lt_or_ge y 4294967296 with g | g
    · exact Or.inl ⟨y, g, by unfold cv_X; rw [if_pos g], rfl⟩
    · obtain rfl : y = 4294967296 := by omega
      exact Or.inr (Or.inl ⟨rfl, rfl⟩)
  · refine Or.inr (Or.inr (Or.inl ⟨y - 8589934592, by omega, ?_, ?_⟩))
    · unfold cv_X; rw [if_neg (by omega), if_neg (by omega)]
      rw [if_pos (by omega)]; exact congrArg lN (by omega)
    · exact congrArg lN (by omega)
  · refine Or.inr (Or.inr (Or.inr ⟨y - 12884901888, by omega, ?_, ?_⟩))
    · unfold cv_X; rw [if_neg (by omega), if_neg (by omega), if_neg (by omega)]; exact congrArg lN (by omega)
    · exact congrArg lN (by omega)
