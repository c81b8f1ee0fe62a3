/-! BITS ARE COUNTED -/
theorem z_ush {n s : Nat} (hn : n < 4294967296) (hs : s < 32) : ((nI n).toUInt32 >>> ((nI s).toUInt32 &&& Int32.toUInt32 31)).toInt32 = nI (n / 2 ^ s) := by
  have e : ((nI s).toUInt32 &&& Int32.toUInt32 31) = UInt32.ofNat s := by
    have : ∀ s, s < 32 → ((nI s).toUInt32 &&& Int32.toUInt32 31) = UInt32.ofNat s := by decide +kernel
    exact this s hs
  rw [e]
  apply Int32.toBitVec_inj.mp
  apply BitVec.eq_of_toNat_eq
  have h1 : ((nI n).toUInt32 >>> UInt32.ofNat s).toNat = n / 2 ^ s := by
    rw [UInt32.toNat_shiftRight, Nat.shiftRight_eq_div_pow]
    have a1 : (nI n).toUInt32.toNat = n := by
      show (BitVec.ofNat 32 n).toNat = n
      rw [BitVec.toNat_ofNat]; exact Nat.mod_eq_of_lt hn
    have a2 : (UInt32.ofNat s).toNat = s := by
      show (BitVec.ofNat 32 s).toNat = s
      rw [BitVec.toNat_ofNat]; exact Nat.mod_eq_of_lt (by omega)
    rw [a1, a2, Nat.mod_eq_of_lt hs]
  show ((nI n).toUInt32 >>> UInt32.ofNat s).toNat = (BitVec.ofNat 32 (n / 2 ^ s)).toNat
  rw [h1, BitVec.toNat_ofNat, Nat.mod_eq_of_lt]
  exact Nat.lt_of_le_of_lt (Nat.div_le_self _ _) hn
theorem z_and {x y : Nat} : x &&& y = (x % 256 &&& y % 256) + 256 * (x / 256 &&& y / 256) := by
  have h1 : (x &&& y) % 256 = (x % 256 &&& y % 256) := Nat.and_mod_two_pow (n := 8)
  have h2 : (x &&& y) / 256 = (x / 256 &&& y / 256) := Nat.and_div_two_pow (n := 8)
  omega
def z1 (m n : Nat) : Nat := n - (n / 2 &&& m)
def z2 (m n : Nat) : Nat := (n &&& m) + (n / 4 &&& m)
def z3 (m n : Nat) : Nat := (n + n / 16) &&& m
theorem z1_d : ∀ a, a < 256 → ∀ e, e < 2 → (a / 2 + 128 * e &&& 85) = (a / 2 &&& 85) := by decide +kernel
theorem z2_d : ∀ a, a < 256 → ∀ e, e < 4 → (a / 4 + 64 * e &&& 51) = (a / 4 &&& 51) := by decide +kernel
theorem z3_d : ∀ a, a < 69 → ∀ e, e < 5 → (a + a / 16 + 16 * e &&& 15) = (a + a / 16 &&& 15) := by decide +kernel
theorem z1_s {m a b : Nat} (ha : a < 256) (hm : m % 256 = 85) : z1 m (a + 256 * b) = z1 85 a + 256 * z1 (m / 256) b := by
  unfold z1
  rw [z_and (x := (a + 256 * b) / 2), hm]
  have e1 : (a + 256 * b) / 2 % 256 = a / 2 + 128 * (b % 2) := by omega
  have e2 : (a + 256 * b) / 2 / 256 = b / 2 := by omega
  rw [e1, e2, z1_d a ha _ (by omega)]
  have l1 : (a / 2 &&& 85) ≤ a / 2 := Nat.and_le_left
  have l2 : (b / 2 &&& m / 256) ≤ b / 2 := Nat.and_le_left
  omega
theorem z2_s {m a b : Nat} (ha : a < 256) (hm : m % 256 = 51) : z2 m (a + 256 * b) = z2 51 a + 256 * z2 (m / 256) b := by
  unfold z2
  rw [z_and (x := a + 256 * b), z_and (x := (a + 256 * b) / 4), hm]
  have e1 : (a + 256 * b) / 4 % 256 = a / 4 + 64 * (b % 4) := by omega
  have e2 : (a + 256 * b) / 4 / 256 = b / 4 := by omega
  have e3 : (a + 256 * b) % 256 = a := by omega
  have e4 : (a + 256 * b) / 256 = b := by omega
  rw [e1, e2, e3, e4, z2_d a ha _ (by omega)]
  omega
theorem z3_s {m a b : Nat} (ha : a < 69) (hb : b % 16 < 5) (hm : m % 256 = 15) : z3 m (a + 256 * b) = z3 15 a + 256 * z3 (m / 256) b := by
  unfold z3
  rw [z_and, hm]
  have e1 : (a + 256 * b + (a + 256 * b) / 16) % 256 = a + a / 16 + 16 * (b % 16) := by omega
  have e2 : (a + 256 * b + (a + 256 * b) / 16) / 256 = b + b / 16 := by omega
  rw [e1, e2, z3_d a ha _ hb]
theorem z_g : ∀ a, a < 256 → z1 85 a < 256 ∧ z2 51 (z1 85 a) < 69 ∧ z2 51 (z1 85 a) % 16 < 5 ∧ z3 15 (z2 51 (z1 85 a)) = ft_pc a 8 := by decide +kernel
theorem z_pc (a b : Nat) (ha : a < 256) : ∀ m, ft_pc (a + 256 * b) (8 + m) = ft_pc a 8 + ft_pc b m
  | 0 => by
    show ft_pc (a + 256 * b) 8 = ft_pc a 8 + 0
    have : ∀ m, m ≤ 8 → ft_pc (a + 256 * b) m = ft_pc a m := by
      intro m
      induction m with
      | zero => intro _; rfl
      | succ m ih =>
        intro hm
        have t : (a + 256 * b).testBit m = a.testBit m := by
          rw [Nat.add_comm a]
          exact Nat.testBit_two_pow_mul_add (i := 8) b (by omega) m |>.trans (by rw [if_pos (by omega)])
        have e1 : ft_pc (a + 256 * b) (m + 1) = ft_pc (a + 256 * b) m + ft_z ((a + 256 * b).testBit m) := rfl
        have e2 : ft_pc a (m + 1) = ft_pc a m + ft_z (a.testBit m) := rfl
        rw [e1, e2, ih (by omega), t]
    rw [this 8 (by omega)]
    rfl
  | m + 1 => by
    have e1 : ft_pc (a + 256 * b) (8 + (m + 1)) = ft_pc (a + 256 * b) (8 + m) + ft_z ((a + 256 * b).testBit (8 + m)) := rfl
    have e2 : ft_pc b (m + 1) = ft_pc b m + ft_z (b.testBit m) := rfl
    have t : (a + 256 * b).testBit (8 + m) = b.testBit m := by
      rw [Nat.add_comm a]
      refine (Nat.testBit_two_pow_mul_add (i := 8) b (by omega) (8 + m)).trans ?_
      rw [if_neg (by omega), Nat.add_sub_cancel_left]
    rw [e1, e2, t, z_pc a b ha m]
    omega
theorem z_0 : z1 85 0 = 0 := rfl
theorem z_fin {A B C D : Nat} (hA : A ≤ 8) (hB : B ≤ 8) (hC : C ≤ 8) (hD : D ≤ 8) : ((A + 256 * (B + 256 * (C + 256 * D))) + (A + 256 * (B + 256 * (C + 256 * D))) / 256 + ((A + 256 * (B + 256 * (C + 256 * D))) + (A + 256 * (B + 256 * (C + 256 * D))) / 256) / 65536) % 64 = A + (B + (C + D)) := by
  have e1 : (A + 256 * (B + 256 * (C + 256 * D))) / 256 = B + 256 * (C + 256 * D) := by omega
  rw [e1]
  have e2 : (A + 256 * (B + 256 * (C + 256 * D)) + (B + 256 * (C + 256 * D))) / 65536 = C + 256 * D + D := by omega
  rw [e2]
  omega
theorem C_bits {F : Nat × Nat} {h : jH} {n : Nat} (hn : n < 33554432) : m_Ji_bitCount F (nI n) h = some (some (.int (nI (ft_pc n 25))), h) := by
  obtain ⟨a, b, c, d, ha, hb, hc, hd, e⟩ : ∃ a b c d, a < 256 ∧ b < 256 ∧ c < 256 ∧ d < 2 ∧ n = a + 256 * (b + 256 * (c + 256 * d)) := ⟨n % 256, n / 256 % 256, n / 65536 % 256, n / 16777216, by omega, by omega, by omega, by omega, by omega⟩
  obtain ⟨ga1, ga2, ga3, ga4⟩ := z_g a ha
  obtain ⟨gb1, gb2, gb3, gb4⟩ := z_g b hb
  obtain ⟨gc1, gc2, gc3, gc4⟩ := z_g c hc
  obtain ⟨gd1, gd2, gd3, gd4⟩ := z_g d (by omega)
  have s1 : z1 1431655765 n = z1 85 a + 256 * (z1 85 b + 256 * (z1 85 c + 256 * z1 85 d)) := by
    rw [e, z1_s ha (by omega), z1_s hb (by omega), z1_s hc (by omega)]
  have s2 : z2 858993459 (z1 1431655765 n) = z2 51 (z1 85 a) + 256 * (z2 51 (z1 85 b) + 256 * (z2 51 (z1 85 c) + 256 * z2 51 (z1 85 d))) := by
    rw [s1, z2_s ga1 (by omega), z2_s gb1 (by omega), z2_s gc1 (by omega)]
  have s3 : z3 252645135 (z2 858993459 (z1 1431655765 n)) = ft_pc a 8 + 256 * (ft_pc b 8 + 256 * (ft_pc c 8 + 256 * ft_pc d 8)) := by
    rw [s2, z3_s ga2 (by omega) (by omega), z3_s gb2 (by omega) (by omega), z3_s gc2 gd3 (by omega), ga4, gb4, gc4, gd4]
  have p0 : ft_pc n 25 = ft_pc a 8 + (ft_pc b 8 + (ft_pc c 8 + ft_pc d 1)) := by
    rw [e, z_pc a _ ha 17, z_pc b _ hb 9, z_pc c _ hc 1]
  have pd : ft_pc d 8 = ft_pc d 1 := by
    have : ∀ d, d < 2 → ft_pc d 8 = ft_pc d 1 := by decide
    exact this d hd
  have la := ft_pc_le a 8
  have lb := ft_pc_le b 8
  have lc := ft_pc_le c 8
  have ld := ft_pc_le d 8
  have b1 : z1 1431655765 n < 4294967296 := by unfold z1; omega
  have b2 : z2 858993459 (z1 1431655765 n) < 4294967296 := by rw [s2]; omega
  have q1 : nI n - (nI (n / 2 ^ 1) &&& nI 1431655765) = nI (z1 1431655765 n) := by
    rw [ft_and, ft_sub (Nat.le_trans Nat.and_le_left (Nat.div_le_self _ _))]; rfl
  have q2 : (nI (z1 1431655765 n) &&& nI 858993459) + (nI (z1 1431655765 n / 2 ^ 2) &&& nI 858993459) = nI (z2 858993459 (z1 1431655765 n)) := by
    rw [ft_and, ft_and, ft_add]; rfl
  have q3 : (nI (z2 858993459 (z1 1431655765 n)) + nI (z2 858993459 (z1 1431655765 n) / 2 ^ 4)) &&& nI 252645135 = nI (z3 252645135 (z2 858993459 (z1 1431655765 n))) := by
    rw [ft_add, ft_and]; rfl
  rw [q_Ji_bitCount]
  simp only
  rw [z_ush (s := 1) (by omega) (by omega), q1, z_ush (s := 2) b1 (by omega), q2, z_ush (s := 4) b2 (by omega), q3, s3, z_ush (s := 8) (by omega) (by omega), ft_add, z_ush (s := 16) (by omega) (by omega), ft_add, ft_and]
  have m63 : ∀ x, x &&& 63 = x % 64 := fun x => Nat.and_two_pow_sub_one_eq_mod x 6
  rw [m63, p0]
  apply ft_so
  have x8 : (2 : Nat) ^ 8 = 256 := rfl
  have x16 : (2 : Nat) ^ 16 = 65536 := rfl
  rw [x8, x16, z_fin la lb lc ld, pd]
theorem C_bits_b {F : Nat × Nat} {h : jH} {n : Nat} (hn : n < 33554432) (ff : Int32 → jH → Option jO) : jbI (m_Ji_bitCount F (nI n) h) ff = ff ((nI (ft_pc n 25))) (h) := bI_of (C_bits (F := F) (h := h) (n := n) (hn := hn)) ff
