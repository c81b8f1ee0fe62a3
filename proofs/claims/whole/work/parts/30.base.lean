/-! PURE ROWS for the plain functions: numbers, cells -/
theorem ft_lit (n : Nat) : (OfNat.ofNat n : Int32) = nI (OfNat.ofNat n) := Eq.trans rfl rfl
theorem ft_m1 : -nI 1 = mI 0 := Eq.trans rfl rfl
theorem ft_m2 : -nI 2 = mI 1 := Eq.trans rfl rfl
theorem ft_m3 : -nI 3 = mI 2 := Eq.trans rfl rfl
theorem ft_m5 : -nI 5 = mI 4 := Eq.trans rfl rfl
theorem ft_m6 : -nI 6 = mI 5 := Eq.trans rfl rfl
theorem ft_mT {n : Nat} (h : n < 2147483648) : (mI n).toInt = -(n : Int) - 1 := by
  unfold mI nI
  rw [Int32.toInt_neg]
  by_cases hn : n + 1 < 2147483648
  · rw [Int32.toInt_ofNat_of_lt hn]
    rw [Int.bmod_def]
    split <;> omega
  · have : n + 1 = 2147483648 := by omega
    rw [this]
    have e : n = 2147483647 := by omega
    rw [e]
    decide
theorem ft_nT {n : Nat} (h : n < 2147483648) : (nI n).toInt = (n : Int) := nI_toInt h
theorem ft_cl {n : Nat} (h : n < 2147483648) : (nI n).toNatClampNeg = n := nI_clamp h
theorem ft_lt {a b : Nat} (ha : a < 2147483648) (hb : b < 2147483648) : (nI a < nI b) = (a < b) := propext (nI_ltI ha hb)
theorem ft_le {a b : Nat} (ha : a < 2147483648) (hb : b < 2147483648) : (nI a ≤ nI b) = (a ≤ b) := propext (nI_leI ha hb)
theorem ft_eq {a b : Nat} (ha : a < 2147483648) (hb : b < 2147483648) : (nI a = nI b) = (a = b) := propext (nI_eq ha hb)
theorem ft_mlt {a b : Nat} (ha : a < 2147483648) (hb : b < 2147483648) : (mI a < nI b) = True := eq_true (by rw [Int32.lt_iff_toInt_lt, ft_mT ha, ft_nT hb]; omega)
theorem ft_ltm {a b : Nat} (ha : a < 2147483648) (hb : b < 2147483648) : (nI b < mI a) = False := eq_false (by rw [Int32.lt_iff_toInt_lt, ft_mT ha, ft_nT hb]; omega)
theorem ft_mltm {a b : Nat} (ha : a < 2147483648) (hb : b < 2147483648) : (mI a < mI b) = (b < a) := propext (by rw [Int32.lt_iff_toInt_lt, ft_mT ha, ft_mT hb]; omega)
theorem ft_meq {a b : Nat} (ha : a < 2147483648) (hb : b < 2147483648) : (mI a = nI b) = False := eq_false (fun e => by have := congrArg Int32.toInt e; rw [ft_mT ha, ft_nT hb] at this; omega)
theorem ft_eqm {a b : Nat} (ha : a < 2147483648) (hb : b < 2147483648) : (nI b = mI a) = False := eq_false (fun e => by have := congrArg Int32.toInt e; rw [ft_mT ha, ft_nT hb] at this; omega)
theorem ft_meqm {a b : Nat} (ha : a < 2147483648) (hb : b < 2147483648) : (mI a = mI b) = (a = b) := propext ⟨fun e => by have := congrArg Int32.toInt e; rw [ft_mT ha, ft_mT hb] at this; omega, fun e => by rw [e]⟩
theorem ft_cases (x : Int32) : (∃ n, n < 2147483648 ∧ x = nI n) ∨ (∃ n, n < 2147483648 ∧ x = mI n) := by
  by_cases h : x < 0
  · right
    have h0 : x.toInt < 0 := by have := Int32.lt_iff_toInt_lt.mp h; simpa using this
    have h1 : -2147483648 ≤ x.toInt := Int32.le_toInt x
    refine ⟨(-x.toInt - 1).toNat, by omega, ?_⟩
    apply Int32.toInt_inj.mp
    rw [ft_mT (by omega)]
    omega
  · left
    exact nI_of h
theorem ft_add (a b : Nat) : nI a + nI b = nI (a + b) := nI_add a b
theorem ft_mul (a b : Nat) : nI a * nI b = nI (a * b) := pk_mul a b
theorem ft_sub {a b : Nat} (h : b ≤ a) : nI a - nI b = nI (a - b) := pk_sub h
theorem ft_sm {a b : Nat} (h : a < b) : nI a - nI b = mI (b - a - 1) := by
  obtain ⟨d, rfl⟩ : ∃ d, b = a + (d + 1) := ⟨b - a - 1, by omega⟩
  rw [show a + (d + 1) - a - 1 = d by omega, ← nI_add]
  unfold mI
  generalize nI a = x
  generalize nI (d + 1) = y
  rw [Int32.sub_eq_add_neg, Int32.neg_add, Int32.sub_eq_add_neg, ← Int32.add_assoc, ← Int32.sub_eq_add_neg x, Int32.sub_self, Int32.zero_add]
theorem ft_nm (n : Nat) : -mI n = nI (n + 1) := by unfold mI; exact Int32.neg_neg
theorem ft_m1a (n : Nat) : nI (n + 1) + mI 0 = nI n := pk_m1 n
theorem ft_m1p {n : Nat} (h : 0 < n) : nI n + mI 0 = nI (n - 1) := by
  obtain ⟨m, rfl⟩ : ∃ m, n = m + 1 := ⟨n - 1, by omega⟩
  exact pk_m1 m
theorem ft_ma1 (n : Nat) : mI 0 + nI (n + 1) = nI n := by rw [Int32.add_comm]; exact pk_m1 n
theorem ft_div {a d : Nat} (ha : a < 2147483648) (h0 : 0 < d) (hd : d < 2147483648) : nI a / nI d = nI (a / d) := pk_div ha h0 hd
theorem ft_rem {a d : Nat} (ha : a < 2147483648) (h0 : 0 < d) (hd : d < 2147483648) : nI a - nI (a / d) * nI d = nI (a % d) := by rw [← pk_div ha h0 hd]; exact pk_rem ha h0 hd
theorem ft_rem2 (a d : Nat) : nI a - nI (a / d * d) = nI (a % d) := by
  rw [pk_sub (Nat.div_mul_le_self a d)]
  congr 1
  have := Nat.div_add_mod a d
  rw [Nat.mul_comm] at this
  omega
theorem ft_and (a b : Nat) : nI a &&& nI b = nI (a &&& b) := by
  apply Int32.toBitVec_inj.mp
  apply BitVec.eq_of_getLsbD_eq
  intro i hi
  simp [nI, Int32.toBitVec_ofNat, BitVec.getLsbD_ofNat, hi]
theorem ft_or (a b : Nat) : nI a ||| nI b = nI (a ||| b) := by
  apply Int32.toBitVec_inj.mp
  apply BitVec.eq_of_getLsbD_eq
  intro i hi
  simp [nI, Int32.toBitVec_ofNat, BitVec.getLsbD_ofNat, hi]
theorem ft_31 {s : Nat} (h : s < 32) : s &&& 31 = s := by
  rw [Nat.and_two_pow_sub_one_eq_mod s 5]
  exact Nat.mod_eq_of_lt h
theorem ft_shs : ∀ t, t < 32 → ((nI t).toBitVec.smod 32).toNat = t := by decide
theorem ft_shl {a t : Nat} (ht : t < 32) : nI a <<< nI t = nI (a <<< t) := by
  apply Int32.toBitVec_inj.mp
  apply BitVec.eq_of_toNat_eq
  rw [pk_shl (nI a) (nI t) t (ft_shs t ht), Nat.shiftLeft_eq]
  show (BitVec.ofNat 32 a).toNat * 2 ^ t % 2 ^ 32 = (BitVec.ofNat 32 (a * 2 ^ t)).toNat
  rw [BitVec.toNat_ofNat, BitVec.toNat_ofNat, Nat.mod_mul_mod]
theorem ft_shr {a t : Nat} (ha : a < 2147483648) (ht : t < 32) : nI a >>> nI t = nI (a >>> t) := by rw [pk_shrN ha (nI t) t (ft_shs t ht), Nat.shiftRight_eq_div_pow]
theorem ft_b1 (a c : Nat) : (a >>> c &&& 1 = 1) = (a.testBit c = true) := by
  unfold Nat.testBit
  rw [Nat.and_comm (a >>> c) 1]
  rcases Nat.mod_two_eq_zero_or_one (a >>> c) with h | h
  · simp [Nat.one_and_eq_mod_two, h]
  · simp [Nat.one_and_eq_mod_two, h]
theorem ft_b0 (a c : Nat) : a >>> c &&& 1 = if a.testBit c then 1 else 0 := by
  have := ft_b1 a c
  by_cases h : a.testBit c = true
  · rw [if_pos h]; rw [h] at this; exact this.mpr rfl
  · rw [if_neg h]
    have h2 : ¬ (a >>> c &&& 1 = 1) := fun q => h (this.mp q)
    have h3 : a >>> c &&& 1 < 2 := Nat.and_lt_two_pow _ (n := 1) (by omega)
    omega
theorem ft_b1lt (a c : Nat) : a >>> c &&& 1 < 2 := Nat.and_lt_two_pow _ (n := 1) (by omega)
def ft_z (b : Bool) : Nat := if b then 1 else 0
/-- a set out of a test -/
def ft_bs (p : Nat → Bool) : Nat → Nat
  | 0 => 0
  | n + 1 => ft_bs p n ||| (if p n then 1 <<< n else 0)
theorem ft_bs_t (p : Nat → Bool) : ∀ n i, (ft_bs p n).testBit i = (decide (i < n) && p i)
  | 0, i => by simp [ft_bs]
  | n + 1, i => by
    unfold ft_bs
    rw [Nat.testBit_or, ft_bs_t p n i]
    by_cases h : i = n
    · subst h
      by_cases hp : p i <;> simp [hp]
    · by_cases hp : p n
      · simp only [hp, if_true, Nat.one_shiftLeft]
        rw [Nat.testBit_two_pow_of_ne (Ne.symm h)]
        have : decide (i < n + 1) = decide (i < n) := by
          apply decide_eq_decide.mpr
          omega
        rw [this, Bool.or_false]
      · simp only [hp]
        have : decide (i < n + 1) = decide (i < n) := by
          apply decide_eq_decide.mpr
          omega
        rw [this]
        simp
theorem ft_bs_lt (p : Nat → Bool) (n : Nat) : ft_bs p n < 2 ^ n := by
  apply Nat.lt_pow_two_of_testBit
  intro i hi
  rw [ft_bs_t]
  have : ¬ i < n := by omega
  simp [this]
theorem ft_bs_e {p q : Nat → Bool} : ∀ n, (∀ i, i < n → p i = q i) → ft_bs p n = ft_bs q n
  | 0, _ => rfl
  | n + 1, h => by
    unfold ft_bs
    rw [ft_bs_e n (fun i hi => h i (by omega)), h n (by omega)]
theorem ft_or0 (n : Nat) : n ||| 0 = n := Nat.or_zero n
/-- heaps -/
theorem ft_rv (p : Nat) (f : Nat → Option jO) : j_rv (va_rf (some p)) f = f p := rfl
theorem ft_rvr (p : Nat) (f : Nat → Option jO) : j_rv (.ref p) f = f p := rfl
theorem ft_rf (p : Nat) : va_rf (some p) = .ref p := rfl
theorem ft_rfn : va_rf none = .null := rfl
theorem ft_bI (r : Int32) (h : jH) (f : Int32 → jH → Option jO) : jbI (some (some (.int r), h)) f = f r h := rfl
theorem ft_bJ (r : Int64) (h : jH) (f : Int64 → jH → Option jO) : jbJ (some (some (.long r), h)) f = f r h := rfl
theorem ft_bV (h : jH) (f : jH → Option jO) : jbV (some (none, h)) f = f h := rfl
theorem ft_bR (p : Nat) (h : jH) (f : Value → jH → Option jO) : jbR (some (some (.ref p), h)) f = f (.ref p) h := rfl
theorem ft_bRn (h : jH) (f : Value → jH → Option jO) : jbR (some (some .null, h)) f = f .null h := rfl
theorem ft_isr (p : Nat) : j_isr (.ref p) = true := rfl
theorem ft_isn : j_isr .null = true := rfl
theorem ft_ifn (a b : Option jO) : j_ifn .null a b = a := rfl
theorem ft_ifr (p : Nat) (a b : Option jO) : j_ifn (.ref p) a b = b := rfl
theorem ft_ov (p : Nat) : j_ov (.ref p) = some p := rfl
theorem ft_ovn : j_ov .null = none := rfl
theorem ft_in {h : jH} {a n : Nat} (hn : n < 2147483648) : j_in h a (nI n) = (n < j_n h a) := by
  unfold j_in
  rw [nI_clamp hn]
  exact propext ⟨fun q => q.2, fun q => ⟨nI_pos hn, q⟩⟩
theorem k_sI (h : jH) (a k : Nat) (x : Int32) (b : Nat) : j_k (j_sI h a k x) b = j_k h b := rfl
theorem n_sI (h : jH) (a k : Nat) (x : Int32) (b : Nat) : j_n (j_sI h a k x) b = j_n h b := rfl
theorem R_sI (h : jH) (a k : Nat) (x : Int32) (b j : Nat) : j_R (j_sI h a k x) b j = j_R h b j := rfl
theorem J_sI (h : jH) (a k : Nat) (x : Int32) (b j : Nat) : j_J (j_sI h a k x) b j = j_J h b j := rfl
theorem c_sI (h : jH) (a k : Nat) (x : Int32) : j_c (j_sI h a k x) = j_c h := rfl
theorem z_sI (h : jH) (a k : Nat) (x : Int32) : j_z (j_sI h a k x) = j_z h := rfl
theorem k_sJ (h : jH) (a k : Nat) (x : Int64) (b : Nat) : j_k (j_sJ h a k x) b = j_k h b := rfl
theorem n_sJ (h : jH) (a k : Nat) (x : Int64) (b : Nat) : j_n (j_sJ h a k x) b = j_n h b := rfl
theorem R_sJ (h : jH) (a k : Nat) (x : Int64) (b j : Nat) : j_R (j_sJ h a k x) b j = j_R h b j := rfl
theorem I_sJ (h : jH) (a k : Nat) (x : Int64) (b j : Nat) : j_I (j_sJ h a k x) b j = j_I h b j := rfl
theorem c_sJ (h : jH) (a k : Nat) (x : Int64) : j_c (j_sJ h a k x) = j_c h := rfl
theorem z_sJ (h : jH) (a k : Nat) (x : Int64) : j_z (j_sJ h a k x) = j_z h := rfl
theorem k_sR (h : jH) (a k : Nat) (x : Option Nat) (b : Nat) : j_k (j_sR h a k x) b = j_k h b := rfl
theorem n_sR (h : jH) (a k : Nat) (x : Option Nat) (b : Nat) : j_n (j_sR h a k x) b = j_n h b := rfl
theorem I_sR (h : jH) (a k : Nat) (x : Option Nat) (b j : Nat) : j_I (j_sR h a k x) b j = j_I h b j := rfl
theorem J_sR (h : jH) (a k : Nat) (x : Option Nat) (b j : Nat) : j_J (j_sR h a k x) b j = j_J h b j := rfl
theorem c_sR (h : jH) (a k : Nat) (x : Option Nat) : j_c (j_sR h a k x) = j_c h := rfl
theorem z_sR (h : jH) (a k : Nat) (x : Option Nat) : j_z (j_sR h a k x) = j_z h := rfl
theorem u2_ne {α : Type} {f : Nat → Nat → α} {a k : Nat} {x : α} {b l : Nat} (h : b ≠ a) : j_u2 f a k x b l = f b l := by
  unfold j_u2 va_up
  rw [if_neg h]
theorem u2_nk {α : Type} {f : Nat → Nat → α} {a k : Nat} {x : α} {b l : Nat} (h : l ≠ k) : j_u2 f a k x b l = f b l := by
  unfold j_u2 va_up
  split
  · rename_i e
    show (if l = k then x else f a l) = f b l
    rw [if_neg h, e]
  · rfl
theorem u2_eq {α : Type} {f : Nat → Nat → α} {a k : Nat} {x : α} : j_u2 f a k x a k = x := by
  unfold j_u2 va_up
  rw [if_pos rfl, if_pos rfl]
theorem u2_if {α : Type} {f : Nat → Nat → α} {a k : Nat} {x : α} {l : Nat} : j_u2 f a k x a l = if l = k then x else f a l := by
  unfold j_u2 va_up
  rw [if_pos rfl]
theorem I_sIn {h : jH} {a k : Nat} {x : Int32} {b l : Nat} (e : b ≠ a) : j_I (j_sI h a k x) b l = j_I h b l := u2_ne e
theorem I_sIk {h : jH} {a k : Nat} {x : Int32} {b l : Nat} (e : l ≠ k) : j_I (j_sI h a k x) b l = j_I h b l := u2_nk e
theorem I_sIe {h : jH} {a k : Nat} {x : Int32} : j_I (j_sI h a k x) a k = x := u2_eq
theorem I_sIi {h : jH} {a k : Nat} {x : Int32} {l : Nat} : j_I (j_sI h a k x) a l = if l = k then x else j_I h a l := u2_if
theorem J_sJn {h : jH} {a k : Nat} {x : Int64} {b l : Nat} (e : b ≠ a) : j_J (j_sJ h a k x) b l = j_J h b l := u2_ne e
theorem J_sJk {h : jH} {a k : Nat} {x : Int64} {b l : Nat} (e : l ≠ k) : j_J (j_sJ h a k x) b l = j_J h b l := u2_nk e
theorem J_sJe {h : jH} {a k : Nat} {x : Int64} : j_J (j_sJ h a k x) a k = x := u2_eq
theorem J_sJi {h : jH} {a k : Nat} {x : Int64} {l : Nat} : j_J (j_sJ h a k x) a l = if l = k then x else j_J h a l := u2_if
theorem R_sRn {h : jH} {a k : Nat} {x : Option Nat} {b l : Nat} (e : b ≠ a) : j_R (j_sR h a k x) b l = j_R h b l := u2_ne e
theorem R_sRk {h : jH} {a k : Nat} {x : Option Nat} {b l : Nat} (e : l ≠ k) : j_R (j_sR h a k x) b l = j_R h b l := u2_nk e
theorem R_sRe {h : jH} {a k : Nat} {x : Option Nat} : j_R (j_sR h a k x) a k = x := u2_eq
theorem R_sRi {h : jH} {a k : Nat} {x : Option Nat} {l : Nat} : j_R (j_sR h a k x) a l = if l = k then x else j_R h a l := u2_if
theorem ft_ifl {α : Type} {a b : Nat} [Decidable (a < b)] {x y : α} (h : a < b) : (if a < b then x else y) = x := if_pos h
theorem ft_ifg {α : Type} {a b : Nat} [Decidable (a < b)] {x y : α} (h : b ≤ a) : (if a < b then x else y) = y := if_neg (by omega)
theorem ft_ife {α : Type} {a b : Nat} [Decidable (a = b)] {x y : α} (h : a = b) : (if a = b then x else y) = x := if_pos h
theorem ft_ifn2 {α : Type} {a b : Nat} [Decidable (a = b)] {x y : α} (h : a ≠ b) : (if a = b then x else y) = y := if_neg h
theorem ft_z0 (b : Bool) : (nI (ft_z b) = nI 0) = (b = false) := by cases b <;> simp [ft_z] <;> decide
theorem ft_z1 (b : Bool) : (nI (ft_z b) = nI 1) = (b = true) := by cases b <;> simp [ft_z] <;> decide
theorem ft_z01 (b : Bool) : (nI (ft_z b) = nI 0 ∨ nI (ft_z b) = nI 1) = True := by rw [ft_z0, ft_z1]; cases b <;> simp
theorem ft_zT : nI 1 = nI (ft_z true) := rfl
theorem ft_zF : nI 0 = nI (ft_z false) := rfl
/-- fuel enough -/
def FF (F : Nat × Nat) : Prop := 40000000 ≤ F.1 ∧ 50 ≤ F.2
theorem ft_bs_s (p : Nat → Bool) (n : Nat) : ft_bs p (n + 1) = ft_bs p n ||| (if p n then 1 <<< n else 0) := rfl
theorem ft_bz (a c : Nat) : a >>> c &&& 1 = ft_z (a.testBit c) := ft_b0 a c
def ft_pc (n : Nat) : Nat → Nat
  | 0 => 0
  | m + 1 => ft_pc n m + ft_z (n.testBit m)
theorem ft_z_le (b : Bool) : ft_z b ≤ 1 := by cases b <;> decide
theorem ft_pc_le (n : Nat) : ∀ m, ft_pc n m ≤ m
  | 0 => Nat.le_refl _
  | m + 1 => by
    have := ft_pc_le n m
    have := ft_z_le (n.testBit m)
    unfold ft_pc
    omega
/-- what has changed: ints and longs of D, references of E -/
def jX (D E : Nat → Nat → Prop) (h h' : jH) : Prop := h'.1 = h.1 ∧ j_c h' = j_c h ∧ j_z h' = j_z h ∧ ∀ a i, (¬ D a i → j_I h' a i = j_I h a i ∧ j_J h' a i = j_J h a i) ∧ (¬ E a i → j_R h' a i = j_R h a i)
abbrev jN : Nat → Nat → Prop := fun _ _ => False
theorem jX.rf {D E : Nat → Nat → Prop} {h : jH} : jX D E h h := ⟨rfl, rfl, rfl, fun _ _ => ⟨fun _ => ⟨rfl, rfl⟩, fun _ => rfl⟩⟩
theorem jX.tr {D E D' E' : Nat → Nat → Prop} {h h' h'' : jH} (x : jX D E h h') (y : jX D' E' h' h'') : jX (fun a i => D a i ∨ D' a i) (fun a i => E a i ∨ E' a i) h h'' :=
  ⟨y.1.trans x.1, y.2.1.trans x.2.1, y.2.2.1.trans x.2.2.1, fun a i => ⟨fun n => ⟨((y.2.2.2 a i).1 (fun q => n (Or.inr q))).1.trans ((x.2.2.2 a i).1 (fun q => n (Or.inl q))).1, ((y.2.2.2 a i).1 (fun q => n (Or.inr q))).2.trans ((x.2.2.2 a i).1 (fun q => n (Or.inl q))).2⟩, fun n => ((y.2.2.2 a i).2 (fun q => n (Or.inr q))).trans ((x.2.2.2 a i).2 (fun q => n (Or.inl q)))⟩⟩
theorem jX.up {D E D' E' : Nat → Nat → Prop} {h h' : jH} (x : jX D E h h') (d : ∀ a i, D a i → D' a i) (e : ∀ a i, E a i → E' a i) : jX D' E' h h' :=
  ⟨x.1, x.2.1, x.2.2.1, fun a i => ⟨fun n => (x.2.2.2 a i).1 (fun q => n (d a i q)), fun n => (x.2.2.2 a i).2 (fun q => n (e a i q))⟩⟩
theorem jX.t {D E : Nat → Nat → Prop} {h h' h'' : jH} (x : jX D E h h') (y : jX D E h' h'') : jX D E h h'' := (x.tr y).up (fun _ _ q => q.elim id id) (fun _ _ q => q.elim id id)
theorem jX.k {D E : Nat → Nat → Prop} {h h' : jH} (x : jX D E h h') (a : Nat) : j_k h' a = j_k h a := by unfold j_k; rw [x.1]
theorem jX.n {D E : Nat → Nat → Prop} {h h' : jH} (x : jX D E h h') (a : Nat) : j_n h' a = j_n h a := by unfold j_n; rw [x.1]
theorem jX.I {D E : Nat → Nat → Prop} {h h' : jH} (x : jX D E h h') {a i : Nat} (n : ¬ D a i) : j_I h' a i = j_I h a i := ((x.2.2.2 a i).1 n).1
theorem jX.J {D E : Nat → Nat → Prop} {h h' : jH} (x : jX D E h h') {a i : Nat} (n : ¬ D a i) : j_J h' a i = j_J h a i := ((x.2.2.2 a i).1 n).2
theorem jX.R {D E : Nat → Nat → Prop} {h h' : jH} (x : jX D E h h') {a i : Nat} (n : ¬ E a i) : j_R h' a i = j_R h a i := (x.2.2.2 a i).2 n
theorem jX.sI {D E : Nat → Nat → Prop} {h h' : jH} {a k : Nat} {v : Int32} (x : jX D E h h') (d : D a k) : jX D E h (j_sI h' a k v) :=
  ⟨x.1, x.2.1, x.2.2.1, fun b i => ⟨fun n => ⟨by
    by_cases e : b = a
    · by_cases e2 : i = k
      · subst e e2; exact absurd d n
      · rw [I_sIk e2]; exact x.I n
    · rw [I_sIn e]; exact x.I n, x.J n⟩, fun n => x.R n⟩⟩
theorem jX.sJ {D E : Nat → Nat → Prop} {h h' : jH} {a k : Nat} {v : Int64} (x : jX D E h h') (d : D a k) : jX D E h (j_sJ h' a k v) :=
  ⟨x.1, x.2.1, x.2.2.1, fun b i => ⟨fun n => ⟨x.I n, by
    by_cases e : b = a
    · by_cases e2 : i = k
      · subst e e2; exact absurd d n
      · rw [J_sJk e2]; exact x.J n
    · rw [J_sJn e]; exact x.J n⟩, fun n => x.R n⟩⟩
theorem jX.sR {D E : Nat → Nat → Prop} {h h' : jH} {a k : Nat} {v : Option Nat} (x : jX D E h h') (d : E a k) : jX D E h (j_sR h' a k v) :=
  ⟨x.1, x.2.1, x.2.2.1, fun b i => ⟨fun n => ⟨x.I n, x.J n⟩, fun n => by
    by_cases e : b = a
    · by_cases e2 : i = k
      · subst e e2; exact absurd d n
      · rw [R_sRk e2]; exact x.R n
    · rw [R_sRn e]; exact x.R n⟩⟩
/-- a whole row -/
def j_wI (h : jH) (a : Nat) (f : Nat → Int32) : jH := (h.1, va_up h.2.1 a f, h.2.2)
def j_wJ (h : jH) (a : Nat) (f : Nat → Int64) : jH := (h.1, h.2.1, va_up h.2.2.1 a f, h.2.2.2)
theorem k_wI (h : jH) (a : Nat) (f : Nat → Int32) (b : Nat) : j_k (j_wI h a f) b = j_k h b := rfl
theorem n_wI (h : jH) (a : Nat) (f : Nat → Int32) (b : Nat) : j_n (j_wI h a f) b = j_n h b := rfl
theorem R_wI (h : jH) (a : Nat) (f : Nat → Int32) (b i : Nat) : j_R (j_wI h a f) b i = j_R h b i := rfl
theorem J_wI (h : jH) (a : Nat) (f : Nat → Int32) (b i : Nat) : j_J (j_wI h a f) b i = j_J h b i := rfl
theorem I_wIe (h : jH) (a : Nat) (f : Nat → Int32) (i : Nat) : j_I (j_wI h a f) a i = f i := by unfold j_I j_wI va_up; simp
theorem I_wIn {h : jH} {a : Nat} {f : Nat → Int32} {b i : Nat} (e : b ≠ a) : j_I (j_wI h a f) b i = j_I h b i := by unfold j_I j_wI va_up; simp [e]
theorem k_wJ (h : jH) (a : Nat) (f : Nat → Int64) (b : Nat) : j_k (j_wJ h a f) b = j_k h b := rfl
theorem n_wJ (h : jH) (a : Nat) (f : Nat → Int64) (b : Nat) : j_n (j_wJ h a f) b = j_n h b := rfl
theorem R_wJ (h : jH) (a : Nat) (f : Nat → Int64) (b i : Nat) : j_R (j_wJ h a f) b i = j_R h b i := rfl
theorem I_wJ (h : jH) (a : Nat) (f : Nat → Int64) (b i : Nat) : j_I (j_wJ h a f) b i = j_I h b i := rfl
theorem J_wJe (h : jH) (a : Nat) (f : Nat → Int64) (i : Nat) : j_J (j_wJ h a f) a i = f i := by unfold j_J j_wJ va_up; simp
theorem J_wJn {h : jH} {a : Nat} {f : Nat → Int64} {b i : Nat} (e : b ≠ a) : j_J (j_wJ h a f) b i = j_J h b i := by unfold j_J j_wJ va_up; simp [e]
theorem wI_0 (h : jH) (a : Nat) {f : Nat → Int32} (e : ∀ i, f i = j_I h a i) : j_wI h a f = h := by
  have : f = h.2.1 a := funext e
  have h2 : va_up h.2.1 a f = h.2.1 := by
    funext b
    unfold va_up
    split
    · rename_i q; rw [q, this]
    · rfl
  unfold j_wI
  rw [h2]
theorem wJ_0 (h : jH) (a : Nat) {f : Nat → Int64} (e : ∀ i, f i = j_J h a i) : j_wJ h a f = h := by
  have : f = h.2.2.1 a := funext e
  have h2 : va_up h.2.2.1 a f = h.2.2.1 := by
    funext b
    unfold va_up
    split
    · rename_i q; rw [q, this]
    · rfl
  unfold j_wJ
  rw [h2]
theorem wI_s {h : jH} {a k : Nat} {f g : Nat → Int32} {x : Int32} (e : ∀ i, (if i = k then x else f i) = g i) : j_sI (j_wI h a f) a k x = j_wI h a g := by
  have : g = va_up f k x := funext fun i => (e i).symm
  subst this
  unfold j_sI j_wI j_u2
  congr 1
  congr 1
  funext b
  unfold va_up
  split <;> simp_all
theorem wJ_s {h : jH} {a k : Nat} {f g : Nat → Int64} {x : Int64} (e : ∀ i, (if i = k then x else f i) = g i) : j_sJ (j_wJ h a f) a k x = j_wJ h a g := by
  have : g = va_up f k x := funext fun i => (e i).symm
  subst this
  unfold j_sJ j_wJ j_u2
  congr 1
  congr 1
  congr 1
  funext b
  unfold va_up
  split <;> simp_all
theorem wI_w (h : jH) (a : Nat) (f g : Nat → Int32) : j_wI (j_wI h a f) a g = j_wI h a g := by
  unfold j_wI
  congr 1
  congr 1
  funext b
  unfold va_up
  simp only
  split <;> rfl
theorem wJ_w (h : jH) (a : Nat) (f g : Nat → Int64) : j_wJ (j_wJ h a f) a g = j_wJ h a g := by
  unfold j_wJ
  congr 1
  congr 1
  congr 1
  funext b
  unfold va_up
  simp only
  split <;> rfl
theorem jX.wI {D E : Nat → Nat → Prop} {h h' : jH} {a : Nat} {f : Nat → Int32} (x : jX D E h h') (d : ∀ i, ¬ D a i → f i = j_I h' a i) : jX D E h (j_wI h' a f) :=
  ⟨x.1, x.2.1, x.2.2.1, fun b i => ⟨fun n => ⟨by
    by_cases e : b = a
    · subst e; rw [I_wIe, d i n]; exact x.I n
    · rw [I_wIn e]; exact x.I n, x.J n⟩, fun n => x.R n⟩⟩
theorem jX.wJ {D E : Nat → Nat → Prop} {h h' : jH} {a : Nat} {f : Nat → Int64} (x : jX D E h h') (d : ∀ i, ¬ D a i → f i = j_J h' a i) : jX D E h (j_wJ h' a f) :=
  ⟨x.1, x.2.1, x.2.2.1, fun b i => ⟨fun n => ⟨x.I n, by
    by_cases e : b = a
    · subst e; rw [J_wJe, d i n]; exact x.J n
    · rw [J_wJn e]; exact x.J n⟩, fun n => x.R n⟩⟩
theorem ft_bb (b : Bool) : (b = false ∨ b = true) = True := by cases b <;> simp
theorem ft_zt : ft_z true = 1 := rfl
theorem ft_zf : ft_z false = 0 := rfl
theorem ft_so {x y : Nat} {h : jH} (e : x = y) : some (some (Value.int (nI x)), h) = some (some (Value.int (nI y)), h) := by rw [e]
theorem ft_zc {p q : Prop} [Decidable p] [Decidable q] (e : p ↔ q) : ft_z (decide p) = ft_z (decide q) := by
  have : decide p = decide q := decide_eq_decide.mpr e
  rw [this]
theorem ft_zd {p : Prop} [Decidable p] {b : Bool} (e : b = true ↔ p) : ft_z b = ft_z (decide p) := by
  have : b = decide p := by rw [Bool.eq_iff_iff, e]; simp
  rw [this]
theorem ft_ltT {a b : Nat} (h : a < b) : (a < b) = True := eq_true h
theorem ft_ltF {a b : Nat} (h : b ≤ a) : (a < b) = False := eq_false (by omega)
theorem ft_eqT {a b : Nat} (h : a = b) : (a = b) = True := eq_true h
theorem ft_eqF {a b : Nat} (h : a ≠ b) : (a = b) = False := eq_false h
/-- the same references -/
def sR (h2 h : jH) : Prop := h2.2.2.2.1 = h.2.2.2.1
theorem sR_rfl (h2 h : jH) (e : h2.2.2.2.1 = h.2.2.2.1) : sR h2 h := e
theorem rv_of {h h2 : jH} {a i p : Nat} (q : j_R h a i = some p) (e : sR h2 h) (f : Nat → Option jO) : j_rv (va_rf (j_R h2 a i)) f = f p := by
  have : j_R h2 a i = some p := by unfold j_R at q ⊢; rw [e]; exact q
  rw [this]
  rfl
theorem bI_of {m : Option jO} {r : Int32} {h : jH} (e : m = some (some (.int r), h)) (f : Int32 → jH → Option jO) : jbI m f = f r h := by rw [e]; rfl
theorem bJ_of {m : Option jO} {r : Int64} {h : jH} (e : m = some (some (.long r), h)) (f : Int64 → jH → Option jO) : jbJ m f = f r h := by rw [e]; rfl
theorem bV_of {m : Option jO} {h : jH} (e : m = some (none, h)) (f : jH → Option jO) : jbV m f = f h := by rw [e]; rfl
