/-! LONGS as Int -/
def iL (v : Int) : Int64 := Int64.ofInt v
theorem iL_0 : (0 : Int64) = iL 0 := by decide
theorem iL_1 : (1 : Int64) = iL 1 := by decide
theorem iL_b : (1000000000 : Int64) = iL 1000000000 := by decide
theorem iL_mb : (-1000000000 : Int64) = iL (-1000000000) := by decide
theorem iL_br : (-9223372036854775808 : Int64) = iL (-9223372036854775808) := by decide
theorem iL_T {v : Int} (h1 : -9223372036854775808 ≤ v) (h2 : v < 9223372036854775808) : (iL v).toInt = v := by
  unfold iL
  exact Int64.toInt_ofInt_of_le h1 (by omega)
theorem iL_add (a b : Int) : iL a + iL b = iL (a + b) := (Int64.ofInt_add a b).symm
theorem iL_sub (a b : Int) : iL a - iL b = iL (a - b) := (Int64.ofInt_sub a b).symm
theorem iL_mul (a b : Int) : iL a * iL b = iL (a * b) := (Int64.ofInt_mul a b).symm
theorem iL_eq {a b : Int} (h1 : -9223372036854775808 ≤ a) (h2 : a < 9223372036854775808) (h3 : -9223372036854775808 ≤ b) (h4 : b < 9223372036854775808) : (iL a = iL b) = (a = b) := propext ⟨fun e => by have := congrArg Int64.toInt e; rwa [iL_T h1 h2, iL_T h3 h4] at this, fun e => by rw [e]⟩
theorem iL_lt {a b : Int} (h1 : -9223372036854775808 ≤ a) (h2 : a < 9223372036854775808) (h3 : -9223372036854775808 ≤ b) (h4 : b < 9223372036854775808) : (iL a < iL b) = (a < b) := propext (by rw [Int64.lt_iff_toInt_lt, iL_T h1 h2, iL_T h3 h4])
theorem cmp_gt {a b : Int} (h1 : -9223372036854775808 ≤ a) (h2 : a < 9223372036854775808) (h3 : -9223372036854775808 ≤ b) (h4 : b < 9223372036854775808) : (nI 0 < lg_cmp (iL a) (iL b)) = (b < a) := by
  unfold lg_cmp
  have e1 : (iL a > iL b) = (b < a) := iL_lt h3 h4 h1 h2
  have e2 : (iL a = iL b) = (a = b) := iL_eq h1 h2 h3 h4
  by_cases q : b < a
  · rw [if_pos (by rw [e1]; exact q)]
    simp only [q, eq_iff_iff, iff_true]
    decide
  · rw [if_neg (by rw [e1]; exact q)]
    simp only [q, eq_iff_iff, iff_false]
    split <;> decide
theorem cmp_lt {a b : Int} (h1 : -9223372036854775808 ≤ a) (h2 : a < 9223372036854775808) (h3 : -9223372036854775808 ≤ b) (h4 : b < 9223372036854775808) : (lg_cmp (iL a) (iL b) < nI 0) = (a < b) := by
  unfold lg_cmp
  have e1 : (iL a > iL b) = (b < a) := iL_lt h3 h4 h1 h2
  have e2 : (iL a = iL b) = (a = b) := iL_eq h1 h2 h3 h4
  by_cases q : b < a
  · rw [if_pos (by rw [e1]; exact q)]
    have : ¬ a < b := by omega
    simp only [this, eq_iff_iff, iff_false]
    decide
  · rw [if_neg (by rw [e1]; exact q)]
    by_cases q2 : a = b
    · rw [if_pos (by rw [e2]; exact q2)]
      have : ¬ a < b := by omega
      simp only [this, eq_iff_iff, iff_false]
      decide
    · rw [if_neg (by rw [e2]; exact q2)]
      have : a < b := by omega
      simp only [this, eq_iff_iff, iff_true]
      decide
theorem cmp_eq {a b : Int} (h1 : -9223372036854775808 ≤ a) (h2 : a < 9223372036854775808) (h3 : -9223372036854775808 ≤ b) (h4 : b < 9223372036854775808) : (lg_cmp (iL a) (iL b) = nI 0) = (a = b) := by
  unfold lg_cmp
  have e1 : (iL a > iL b) = (b < a) := iL_lt h3 h4 h1 h2
  have e2 : (iL a = iL b) = (a = b) := iL_eq h1 h2 h3 h4
  by_cases q : b < a
  · rw [if_pos (by rw [e1]; exact q)]
    have : ¬ a = b := by omega
    simp only [this, eq_iff_iff, iff_false]
    decide
  · rw [if_neg (by rw [e1]; exact q)]
    by_cases q2 : a = b
    · rw [if_pos (by rw [e2]; exact q2)]
      simp only [q2, eq_iff_iff, iff_true]
      decide
    · rw [if_neg (by rw [e2]; exact q2)]
      simp only [q2, eq_iff_iff, iff_false]
      decide
theorem iL_div {a b : Int} (h1 : -1000000000000000000 ≤ a) (h2 : a ≤ 1000000000000000000) (h3 : -1000000000000000000 ≤ b) (h4 : b ≤ 1000000000000000000) : iL a / iL b = iL (a.tdiv b) := by
  apply Int64.toInt_inj.mp
  rw [Int64.toInt_div, iL_T (by omega) (by omega), iL_T (v := b) (by omega) (by omega)]
  unfold iL
  rw [Int64.toInt_ofInt]
theorem tdiv_le {a b : Int} (h1 : -1000000000 ≤ a) (h2 : a ≤ 1000000000) : -1000000000 ≤ a.tdiv b ∧ a.tdiv b ≤ 1000000000 := by
  have := Int.natAbs_tdiv_le_natAbs a b
  omega
theorem iL_rem {a b : Int} (h1 : -1000000000000000000 ≤ a) (h2 : a ≤ 1000000000000000000) (h3 : -1000000000000000000 ≤ b) (h4 : b ≤ 1000000000000000000) : iL a - iL a / iL b * iL b = iL (a.tmod b) := by
  rw [iL_div h1 h2 h3 h4, iL_mul, iL_sub]
  congr 1
  have := Int.tmod_def a b
  rw [this, Int.mul_comm]
theorem tmod_le {a b : Int} (h1 : -1000000000 ≤ a) (h2 : a ≤ 1000000000) : -1000000000 ≤ a.tmod b ∧ a.tmod b ≤ 1000000000 := by
  have h3 : (a.tmod b).natAbs ≤ a.natAbs := by
    rw [Int.natAbs_tmod]
    exact Nat.mod_le _ _
  omega
theorem nI_L {n : Nat} (h : n < 2147483648) : (nI n).toInt64 = iL n := by
  rw [nI_l h]
  unfold lN iL
  rw [Int64.ofInt_eq_ofNat]
theorem mI_L {n : Nat} (h : n < 2147483648) : (mI n).toInt64 = iL (-(n : Int) - 1) := by
  apply Int64.toInt_inj.mp
  rw [Int32.toInt_toInt64, ft_mT h, iL_T (by omega) (by omega)]
theorem iL_lN (n : Nat) : iL n = lN n := by
  unfold lN iL
  rw [Int64.ofInt_eq_ofNat]
def iI (v : Int) : Int32 := Int32.ofInt v
theorem iI_L {v : Int} (h1 : -2147483648 ≤ v) (h2 : v < 2147483648) : (iI v).toInt64 = iL v := by
  apply Int64.toInt_inj.mp
  unfold iI
  rw [Int32.toInt_toInt64, Int32.toInt_ofInt_of_le h1 (by omega), iL_T (by omega) (by omega)]
theorem iL_I (v : Int) : (iL v).toInt32 = iI v := by
  unfold iL iI
  exact Int64.toInt32_ofInt
theorem iI_n (n : Nat) : iI n = nI n := by
  unfold iI nI
  rw [Int32.ofInt_eq_ofNat]
theorem iI_m1 : iI (-1) = mI 0 := by decide
theorem iI_sub (a b : Nat) : nI a - nI b = iI ((a : Int) - b) := by
  rw [← iI_n, ← iI_n]
  unfold iI
  exact (Int32.ofInt_sub _ _).symm
theorem iL_ng (a : Int) : -iL a = iL (-a) := (Int64.ofInt_neg a).symm
