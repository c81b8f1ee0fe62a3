/-! BITS OF SHEETS -/
theorem bs_of {a n : Nat} {p : Nat → Bool} (h : a < 2 ^ n) (e : ∀ i, i < n → a.testBit i = p i) : a = ft_bs p n := by
  apply Nat.eq_of_testBit_eq
  intro i
  rw [ft_bs_t]
  by_cases w : i < n
  · rw [decide_eq_true w, Bool.true_and]; exact e i w
  · rw [decide_eq_false w, Bool.false_and]
    exact Nat.testBit_lt_two_pow (Nat.lt_of_lt_of_le h (Nat.pow_le_pow_right (by omega) (by omega)))
theorem x_msk : ∀ c, c < 25 → nI (1 <<< c) ^^^ mI 0 = nI (4294967295 - 2 ^ c) := by decide +kernel
theorem x_mskb : ∀ c, c < 25 → ∀ i, i < 25 → (4294967295 - 2 ^ c).testBit i = !decide (i = c) := by decide +kernel
theorem x_clr {m c : Nat} (hm : m < 33554432) (hc : c < 25) : nI m &&& (nI (1 <<< c) ^^^ mI 0) = nI (ft_bs (fun i => m.testBit i && !decide (i = c)) 25) := by
  rw [x_msk c hc, ft_and]
  congr 1
  refine bs_of (Nat.lt_of_le_of_lt Nat.and_le_left hm) (fun i hi => ?_)
  rw [Nat.testBit_and, x_mskb c hc i hi]
theorem x_set {m c : Nat} (hm : m < 33554432) (hc : c < 25) : m ||| (1 <<< c) = ft_bs (fun i => m.testBit i || decide (i = c)) 25 := by
  have h1 : 1 <<< c < 2 ^ 25 := by
    rw [Nat.shiftLeft_eq, Nat.one_mul]
    exact Nat.pow_lt_pow_right (by omega) hc
  refine bs_of (Nat.or_lt_two_pow hm h1) (fun i hi => ?_)
  rw [Nat.testBit_or]
  congr 1
  rw [Nat.shiftLeft_eq, Nat.one_mul, Nat.testBit_two_pow]
  by_cases e : i = c
  · subst e; simp
  · rw [decide_eq_false e, decide_eq_false (fun z => e z.symm)]
theorem lN_and (a b : Nat) : lN a &&& lN b = lN (a &&& b) := by
  apply Int64.toBitVec_inj.mp
  apply BitVec.eq_of_getLsbD_eq
  intro i hi
  simp [lN, Int64.toBitVec_ofNat, BitVec.getLsbD_ofNat, hi]
theorem lN_or (a b : Nat) : lN a ||| lN b = lN (a ||| b) := by
  apply Int64.toBitVec_inj.mp
  apply BitVec.eq_of_getLsbD_eq
  intro i hi
  simp [lN, Int64.toBitVec_ofNat, BitVec.getLsbD_ofNat, hi]
theorem y_msk : ∀ c, c < 25 → ((3 : Int64) <<< ((nI (2 * c)).toInt64 &&& 63)) ^^^ (-1 : Int64) = lN (18446744073709551615 - 3 * 4 ^ c) := by decide +kernel
theorem y_mskb : ∀ c, c < 25 → ∀ i, i < 50 → (18446744073709551615 - 3 * 4 ^ c).testBit i = !decide (i / 2 = c) := by decide +kernel
theorem y_clr {m c : Nat} (hm : m < 1125899906842624) (hc : c < 25) : lN m &&& (((3 : Int64) <<< ((nI (2 * c)).toInt64 &&& 63)) ^^^ (-1 : Int64)) = lN (ft_bs (fun i => m.testBit i && !decide (i / 2 = c)) 50) := by
  rw [y_msk c hc, lN_and]
  congr 1
  refine bs_of (Nat.lt_of_le_of_lt Nat.and_le_left hm) (fun i hi => ?_)
  rw [Nat.testBit_and, y_mskb c hc i hi]
theorem y_shv : ∀ c, c < 25 → ∀ v, v < 4 → (nI v).toInt64 <<< ((nI (2 * c)).toInt64 &&& 63) = lN (v * 4 ^ c) := by decide +kernel
theorem y_shvb : ∀ c, c < 25 → ∀ v, v < 4 → ∀ i, i < 50 → (v * 4 ^ c).testBit i = (decide (i / 2 = c) && v.testBit (i % 2)) := by decide +kernel
theorem y_shvl : ∀ c, c < 25 → ∀ v, v < 4 → v * 4 ^ c < 2 ^ 50 := by decide +kernel
theorem y_set {m c v : Nat} (hm : m < 1125899906842624) (hc : c < 25) (hv : v < 4) : lN m ||| ((nI v).toInt64 <<< ((nI (2 * c)).toInt64 &&& 63)) = lN (ft_bs (fun i => m.testBit i || (decide (i / 2 = c) && v.testBit (i % 2))) 50) := by
  rw [y_shv c hc v hv, lN_or]
  congr 1
  refine bs_of (Nat.or_lt_two_pow hm (y_shvl c hc v hv)) (fun i hi => ?_)
  rw [Nat.testBit_or, y_shvb c hc v hv i hi]
theorem y_sm : ∀ c, c < 25 → (((nI (2 * c)).toInt64 &&& (63 : Int64)).toBitVec.smod 64).toNat = 2 * c := by decide +kernel
theorem y_shr {m c : Nat} (hm : m < 1125899906842624) (hc : c < 25) : lN m >>> ((nI (2 * c)).toInt64 &&& 63) = lN (m >>> (2 * c)) := by
  apply Int64.toBitVec_inj.mp
  show BitVec.sshiftRight (lN m).toBitVec (((nI (2 * c)).toInt64 &&& (63 : Int64)).toBitVec.smod 64).toNat = _
  rw [y_sm c hc]
  have h0 : (lN m).toBitVec.toNat = m := by
    show (BitVec.ofNat 64 m).toNat = m
    rw [BitVec.toNat_ofNat]; exact Nat.mod_eq_of_lt (by omega)
  have h1 : (lN m).toBitVec.msb = false := by
    rw [BitVec.msb_eq_decide, h0]
    exact decide_eq_false (by omega)
  rw [BitVec.sshiftRight_eq_of_msb_false h1]
  apply BitVec.eq_of_toNat_eq
  rw [BitVec.toNat_ushiftRight, h0]
  show _ = (BitVec.ofNat 64 (m >>> (2 * c))).toNat
  rw [BitVec.toNat_ofNat, Nat.mod_eq_of_lt]
  have : m >>> (2 * c) ≤ m := by rw [Nat.shiftRight_eq_div_pow]; exact Nat.div_le_self _ _
  omega
theorem y_get {d : Nat → Nat} (hd : ∀ c, c < 25 → d c < 4) {c : Nat} (hc : c < 25) : (ft_bs (fun i => (d (i / 2)).testBit (i % 2)) 50) >>> (2 * c) &&& 3 = d c := by
  apply Nat.eq_of_testBit_eq
  intro i
  rw [Nat.testBit_and, Nat.testBit_shiftRight, ft_bs_t]
  by_cases w : i < 2
  · have e3 : (3 : Nat).testBit i = true := by
      obtain rfl | rfl : i = 0 ∨ i = 1 := by omega
      · rfl
      · rfl
    rw [e3, Bool.and_true, decide_eq_true (by omega : 2 * c + i < 50), Bool.true_and]
    have a1 : (2 * c + i) / 2 = c := by omega
    have a2 : (2 * c + i) % 2 = i := by omega
    rw [a1, a2]
  · have z1 : (3 : Nat).testBit i = false := Nat.testBit_lt_two_pow (Nat.lt_of_lt_of_le (by omega : 3 < 2 ^ 2) (Nat.pow_le_pow_right (by omega) (by omega)))
    have z2 : (d c).testBit i = false := Nat.testBit_lt_two_pow (Nat.lt_of_lt_of_le (by have := hd c hc; omega : d c < 2 ^ 2) (Nat.pow_le_pow_right (by omega) (by omega)))
    rw [z1, z2, Bool.and_false]
theorem mrk_lt (k : Nat → Nat) (w : Nat) : mrk k w < 1125899906842624 := ft_bs_lt _ 50
theorem sh_lt (k : Nat → Nat) (w : Nat) : ft_bs (ft_sh k w) 25 < 33554432 := ft_bs_lt _ 25
theorem lN_3 : (3 : Int64) = lN 3 := by decide
theorem mrk_get {k : Nat → Nat} (W : WK k) {w c : Nat} (hw : w < 4) (hc : c < 25) : ((lN (mrk k w) >>> ((nI (2 * c)).toInt64 &&& 63)) &&& (3 : Int64)).toInt32 = nI (k (4 + 25 * w + c) - 1) := by
  rw [y_shr (mrk_lt k w) hc, lN_3, lN_and, lN_i]
  congr 1
  exact y_get (d := fun c => k (4 + 25 * w + c) - 1) (fun c hc => by have := W.sheet hw hc; omega) hc
/-- a cell of a sheet gets a new mark, one more than its kind, or none -/
theorem mrk_up {k : Nat → Nat} {w c x : Nat} (hc : c < 25) : mrk (va_up k (4 + 25 * w + c) x) w = ft_bs (fun i => if i / 2 = c then (x - 1).testBit (i % 2) else (mrk k w).testBit i) 50 := by
  unfold mrk
  apply ft_bs_e
  intro i hi
  rw [ft_bs_t, decide_eq_true hi, Bool.true_and]
  unfold va_up
  by_cases e : i / 2 = c
  · rw [if_pos e, if_pos (by omega)]
  · rw [if_neg e, if_neg (by omega)]
theorem sh_up {k : Nat → Nat} {w c x : Nat} (hc : c < 25) : ft_bs (ft_sh (va_up k (4 + 25 * w + c) x) w) 25 = ft_bs (fun i => if i = c then decide (0 < x) else (ft_bs (ft_sh k w) 25).testBit i) 25 := by
  apply ft_bs_e
  intro i hi
  rw [ft_bs_t, decide_eq_true hi, Bool.true_and]
  unfold ft_sh va_up
  by_cases e : i = c
  · rw [if_pos e, if_pos (by omega)]
  · rw [if_neg e, if_neg (by omega)]
theorem mrk_o {k : Nat → Nat} {w a x : Nat} (h : ¬ (4 + 25 * w ≤ a ∧ a < 4 + 25 * w + 25)) : mrk (va_up k a x) w = mrk k w := by
  unfold mrk
  apply ft_bs_e
  intro i hi
  unfold va_up
  rw [if_neg (by omega)]
theorem sh_o {k : Nat → Nat} {w a x : Nat} (h : ¬ (4 + 25 * w ≤ a ∧ a < 4 + 25 * w + 25)) : ft_bs (ft_sh (va_up k a x) w) 25 = ft_bs (ft_sh k w) 25 := by
  apply ft_bs_e
  intro i hi
  unfold ft_sh va_up
  rw [if_neg (by omega)]
