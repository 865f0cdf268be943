section
theorem vo_sx (x : Int32) : x.toInt64.toBitVec.toNat % 4294967296 = cv_n x := by
  have h : x.toInt64.toBitVec = x.toBitVec.signExtend 64 := rfl
  rw [h, BitVec.toNat_signExtend]
  have h2 : (x.toBitVec.setWidth 64).toNat = x.toBitVec.toNat := by
    rw [BitVec.toNat_setWidth]
    exact Nat.mod_eq_of_lt (Nat.lt_trans x.toBitVec.isLt (by decide))
  rw [h2]
  have h3 := cv_n_lt x
  unfold cv_n at h3 ⊢
  split <;> omega
theorem vo_and (x : Int32) : x.toInt64 &&& 4294967295 = lN (cv_n x) := by
  apply wb_inj
  apply BitVec.eq_of_toNat_eq
  rw [Int64.toBitVec_and, BitVec.toNat_and, wb_tn (Nat.lt_trans (cv_n_lt x) (by decide))]
  show x.toInt64.toBitVec.toNat &&& (2 ^ 32 - 1) = _
  rw [Nat.and_two_pow_sub_one_eq_mod]
  exact vo_sx x
theorem vo_s1 : (1 : Int32).toInt64 <<< ((32 : Int32).toInt64 &&& 63) = lN (1 * 4294967296) := by decide
theorem vo_s2 : (2 : Int32).toInt64 <<< ((32 : Int32).toInt64 &&& 63) = lN (2 * 4294967296) := by decide
theorem vo_s3 : (3 : Int32).toInt64 <<< ((32 : Int32).toInt64 &&& 63) = lN (3 * 4294967296) := by decide
theorem vo_1 (x : Int32) : ((1 : Int32).toInt64 <<< ((32 : Int32).toInt64 &&& 63)) ||| (x.toInt64 &&& 4294967295) = lN (cv_n x + 4294967296) := by
  have h := cv_n_lt x
  rw [vo_and, vo_s1, g_or (k := 32) (by decide) h (by omega)]
  exact congrArg lN (by omega)
theorem vo_2 {f : Nat} (hf : f < 100) : ((2 : Int32).toInt64 <<< ((32 : Int32).toInt64 &&& 63)) ||| ((nI f).toInt64 &&& 4294967295) = lN (8589934592 + f) := by
  rw [vo_and, vo_s2, cv_n_nI (by omega), g_or (k := 32) (by decide) (by omega) (by omega)]
theorem vo_3 {c : Nat} (hc : c < 100) : ((3 : Int32).toInt64 <<< ((32 : Int32).toInt64 &&& 63)) ||| ((nI (c + 1)).toInt64 &&& 4294967295) = lN (12884901888 + c + 1) := by
  rw [vo_and, vo_s3, cv_n_nI (by omega), g_or (k := 32) (by decide) (by omega) (by omega)]
  exact congrArg lN (by omega)
theorem vo_k {y : Nat} (hy : y < 12884901901) : ((lN y).toUInt64 >>> ((32 : Int32).toInt64.toUInt64 &&& Int64.toUInt64 63)).toInt64.toInt32 = nI (y / 4294967296) := by
  have h := wb_shr (n := y) (k := 32) (by omega) (by omega)
  have e : (nI 32) = (32 : Int32) := rfl
  rw [e] at h
  rw [h, lN_i]
theorem vo_add {n : Nat} (q : Nat) : nI (q * 4294967296 + n) = nI n := by
  rw [← cv_nI_mod (q * 4294967296 + n), ← cv_nI_mod n]
  exact congrArg nI (by omega)
theorem vo_i1 (n : Nat) : (lN (n + 4294967296)).toInt32 = nI n := by
  rw [lN_i]; exact (congrArg nI (by omega)).trans (vo_add (n := n) 1)
theorem vo_i2 (n : Nat) : (lN (8589934592 + n)).toInt32 = nI n := by
  rw [lN_i]; exact (congrArg nI (by omega)).trans (vo_add (n := n) 2)
theorem vo_i3 (n : Nat) : (lN (12884901888 + n + 1)).toInt32 = nI (n + 1) := by
  rw [lN_i]; exact (congrArg nI (by omega)).trans (vo_add (n := n + 1) 3)
theorem vo_y2 (n : Nat) : (lN (8589934592 + n) - 8589934592).toInt32 = nI n := by
  have h : lN (8589934592 + n) - lN 8589934592 = lN n := by rw [lN_sub (by omega)]; exact congrArg lN (by omega)
  have h2 : lN (8589934592 + n) - 8589934592 = lN n := h
  rw [h2, lN_i]
theorem vo_y3 (n : Nat) : (lN (12884901888 + n) - 12884901888).toInt32 + 1 = nI (n + 1) := by
  have h : lN (12884901888 + n) - lN 12884901888 = lN n := by rw [lN_sub (by omega)]; exact congrArg lN (by omega)
  have h2 : lN (12884901888 + n) - 12884901888 = lN n := h
  rw [h2, lN_i, nI_1]
theorem vo_f {f : Nat} (hf : f < 100) : ((8589934592 : Int64) + (nI (f + 1)).toInt64) - 1 = lN (8589934592 + f) := by
  rw [nI_l (by omega)]
  have h : (lN 8589934592 + lN (f + 1)) - lN 1 = lN (8589934592 + f) := by rw [lN_add, lN_sub (by omega)]; exact congrArg lN (by omega)
  exact h
theorem vo_c {c : Nat} (hc : c < 100) : ((12884901888 : Int64) + (nI (c + 1)).toInt64) - 1 = lN (12884901888 + c) := by
  rw [nI_l (by omega)]
  have h : (lN 12884901888 + lN (c + 1)) - lN 1 = lN (12884901888 + c) := by rw [lN_add, lN_sub (by omega)]; exact congrArg lN (by omega)
  exact h
/-- comparisons of long values with the reference's bounds -/
theorem vo_le {c y : Nat} (hc : c < 12884901901) (hy : y < 12884901901) : lN c ≤ lN y ↔ c ≤ y := pk_lLE (by omega) (by omega)
theorem vo_lt {c y : Nat} (hc : c < 12884901901) (hy : y < 12884901901) : lN y < lN c ↔ y < c := pk_lLT (by omega) (by omega)
theorem vo_eq {c y : Nat} (hc : c < 12884901901) (hy : y < 12884901901) : lN c = lN y ↔ c = y := pk_lEQ (by omega) (by omega)
theorem vo_st {w : Nat} (hw : w < 100) : (nI w).toInt64 = lN (cv_n (nI w)) := by rw [nI_l (by omega), cv_n_nI (by omega)]
end
