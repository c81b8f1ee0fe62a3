/-! JOINING; THE REFERENCE STEPS -/
theorem x_andn {x y : Nat} (hx : x < 33554432) : nI x &&& (nI y ^^^ mI 0) = nI (ft_bs (fun i => x.testBit i && !y.testBit i) 25) := by
  have hm : (mI 0).toBitVec = BitVec.allOnes 32 := by decide
  apply Int32.toBitVec_inj.mp
  apply BitVec.eq_of_getLsbD_eq
  intro i hi
  have e : (nI x &&& (nI y ^^^ mI 0)).toBitVec = (BitVec.ofNat 32 x) &&& ((BitVec.ofNat 32 y) ^^^ BitVec.allOnes 32) := by rw [← hm]; rfl
  rw [e]
  show _ = (BitVec.ofNat 32 (ft_bs (fun i => x.testBit i && !y.testBit i) 25)).getLsbD i
  rw [BitVec.getLsbD_and, BitVec.getLsbD_xor, BitVec.getLsbD_ofNat, BitVec.getLsbD_ofNat, BitVec.getLsbD_ofNat, BitVec.getLsbD_allOnes, ft_bs_t]
  by_cases w : i < 25
  · rw [decide_eq_true hi, decide_eq_true w]; simp
  · have z : x.testBit i = false := Nat.testBit_lt_two_pow (Nat.lt_of_lt_of_le hx (Nat.pow_le_pow_right (n := 2) (by omega) (by omega : 25 ≤ i)))
    rw [z, decide_eq_false w]; simp
/-- how many of the first n -/
def cnt (p : Nat → Bool) : Nat → Nat
  | 0 => 0
  | n + 1 => cnt p n + ft_z (p n)
theorem cnt_le (p : Nat → Bool) : ∀ n, cnt p n ≤ n
  | 0 => Nat.le_refl _
  | n + 1 => by
    have := cnt_le p n
    have := ft_z_le (p n)
    show cnt p n + ft_z (p n) ≤ n + 1
    omega
theorem pc_cnt (p : Nat → Bool) : ∀ m, m ≤ 25 → ft_pc (ft_bs p 25) m = cnt p m
  | 0, _ => rfl
  | m + 1, h => by
    show ft_pc (ft_bs p 25) m + ft_z ((ft_bs p 25).testBit m) = cnt p m + ft_z (p m)
    rw [pc_cnt p m (by omega), bs_tb (by omega)]
theorem cnt_e {p q : Nat → Bool} : ∀ n, (∀ i, i < n → p i = q i) → cnt p n = cnt q n
  | 0, _ => rfl
  | n + 1, h => by
    show cnt p n + ft_z (p n) = cnt q n + ft_z (q n)
    rw [cnt_e n (fun i hi => h i (by omega)), h n (by omega)]
def jx (k : Nat → Nat) (a b n : Nat) : Bool := ft_sh k a n != ft_sh k b n
def jnK (k : Nat → Nat) (a b : Nat) : Nat → (Nat → Nat)
  | 0 => k
  | n + 1 => if jx k a b n then va_up (va_up (jnK k a b n) (4 + 25 * a + n) (k (4 + 25 * a + n) + k (4 + 25 * b + n))) (4 + 25 * b + n) (k (4 + 25 * a + n) + k (4 + 25 * b + n)) else jnK k a b n
theorem jnK_o {k : Nat → Nat} {a b : Nat} : ∀ n i, n ≤ 25 → ¬ (4 + 25 * a ≤ i ∧ i < 4 + 25 * a + n) → ¬ (4 + 25 * b ≤ i ∧ i < 4 + 25 * b + n) → jnK k a b n i = k i
  | 0, i, _, _, _ => rfl
  | n + 1, i, h, h1, h2 => by
    unfold jnK
    split
    · rw [va_n (by omega), va_n (by omega)]; exact jnK_o n i (by omega) (by omega) (by omega)
    · exact jnK_o n i (by omega) (by omega) (by omega)
theorem jx_sum {k : Nat → Nat} {a b n : Nat} (h : jx k a b n = true) : (k (4 + 25 * a + n) = 0 ∧ 0 < k (4 + 25 * b + n)) ∨ (k (4 + 25 * b + n) = 0 ∧ 0 < k (4 + 25 * a + n)) := by
  unfold jx ft_sh at h
  by_cases c1 : 0 < k (4 + 25 * a + n) <;> by_cases c2 : 0 < k (4 + 25 * b + n)
  · simp [c1, c2] at h
  · exact Or.inr ⟨by omega, c1⟩
  · exact Or.inl ⟨by omega, c2⟩
  · simp [c1, c2] at h
theorem jnK_le {k : Nat → Nat} (W : WK k) {a b : Nat} (ha : a < 4) (hb : b < 4) : ∀ n, n ≤ 25 → ∀ i, i < 100 → jnK k a b n (4 + i) ≤ 4
  | 0, _, i, hi => W.2.2.1 i hi
  | n + 1, h, i, hi => by
    have b1 := W.sheet ha (c := n) (by omega)
    have b2 := W.sheet hb (c := n) (by omega)
    unfold jnK
    by_cases e : jx k a b n = true
    · rw [if_pos e]
      have s := jx_sum e
      by_cases e2 : 4 + i = 4 + 25 * b + n
      · rw [e2, va_e]; omega
      · rw [va_n e2]
        by_cases e3 : 4 + i = 4 + 25 * a + n
        · rw [e3, va_e]; omega
        · rw [va_n e3]; exact jnK_le W ha hb n (by omega) i hi
    · rw [if_neg e]; exact jnK_le W ha hb n (by omega) i hi
theorem jnK_W {k : Nat → Nat} (W : WK k) {a b : Nat} (ha : a < 4) (hb : b < 4) {n : Nat} (hn : n ≤ 25) : WK (jnK k a b n) :=
  W.mv (fun i hi => jnK_o n i hn (by omega) (by omega)) (fun v hv => by rw [jnK_o n v hn (by omega) (by omega)]; exact W.spot hv) (jnK_le W ha hb n hn) (by rw [jnK_o n 104 hn (by omega) (by omega)]; exact W.min)
theorem va_id {k : Nat → Nat} {a x : Nat} (h : k a = x) : va_up k a x = k := by
  funext i
  by_cases e : i = a
  · rw [e, va_e, h]
  · rw [va_n e]
theorem va_cm {k : Nat → Nat} {a b x y : Nat} (h : a ≠ b) : va_up (va_up k a x) b y = va_up (va_up k b y) a x := by
  funext i
  by_cases e : i = a
  · rw [e, va_e, va_n h, va_e]
  · by_cases e2 : i = b
    · rw [e2, va_e, va_n (fun z => h z.symm), va_e]
    · rw [va_n e2, va_n e, va_n e, va_n e2]
def dJ (o a b : Nat) : Nat → Nat → Prop := fun x i => (x = o + 6 ∨ x = o + 7) ∧ (i = a ∨ i = b)
def jt (k : Nat → Nat) (a b : Nat) : Nat := ft_bs (fun i => ft_sh k b i && !ft_sh k a i) 25
theorem U_join_36 {F : Nat × Nat} {o : Nat} {k : Nat → Nat} (W : WK k) {a b : Nat} (ha : a < k 177) (hb : b < k 177) (hab : a ≠ b) : ∀ d n f h, n + d = 25 → d < f → LA h o → LI h o (jnK k a b n) → ∃ h', m_L_joinSheets_36 F f o (nI a) (nI b) (nI (jt k a b)) (nI (jt k b a)) (nI n) h = some (some (.int (nI (cnt (jx k a b) 25))), h') ∧ jX (dJ o a b) jN h h' ∧ LI h' o (jnK k a b 25)
  | 0, n, f + 1, h, e, _, A, I => by
    have : n = 25 := by omega
    subst this
    refine ⟨h, ?_, jX.rf, I⟩
    have c1 := bI_of (C_bits (F := F) (h := h) (n := jt k a b) (ft_bs_lt _ 25))
    have c2 := bI_of (C_bits (F := F) (h := h) (n := jt k b a) (ft_bs_lt _ 25))
    have s : ft_pc (jt k a b) 25 + ft_pc (jt k b a) 25 = cnt (jx k a b) 25 := by
      unfold jt
      rw [pc_cnt _ 25 (Nat.le_refl _), pc_cnt _ 25 (Nat.le_refl _)]
      have : ∀ n, cnt (fun i => ft_sh k b i && !ft_sh k a i) n + cnt (fun i => ft_sh k a i && !ft_sh k b i) n = cnt (jx k a b) n := by
        intro n
        induction n with
        | zero => rfl
        | succ n ih =>
          show cnt (fun i => ft_sh k b i && !ft_sh k a i) n + ft_z (ft_sh k b n && !ft_sh k a n) + (cnt (fun i => ft_sh k a i && !ft_sh k b i) n + ft_z (ft_sh k a n && !ft_sh k b n)) = cnt (jx k a b) n + ft_z (jx k a b n)
          have : ft_z (ft_sh k b n && !ft_sh k a n) + ft_z (ft_sh k a n && !ft_sh k b n) = ft_z (jx k a b n) := by
            unfold jx
            cases ft_sh k a n <;> cases ft_sh k b n <;> rfl
          omega
      exact this 25
    rw [q_L_joinSheets_36]
    simp (disch := first | exact sR_rfl _ _ rfl | omega) only [ft_lit, ft_m1, ft_m2, ft_m3, ft_m5, ft_m6, ft_cl, ft_lt, ft_le, ft_eq, ft_mlt, ft_ltm, ft_mltm, ft_meq, ft_eqm, ft_meqm, ft_add, ft_mul, ft_sub, ft_nm, ft_m1p, ft_and, ft_or, ft_31, ft_shl, ft_shr, ft_bz, ft_z0, ft_z1, ft_z01, ft_bb, ft_zt, ft_zf, ft_or0, ft_rv, ft_rvr, ft_rf, ft_rfn, ft_bI, ft_bJ, ft_bV, ft_bR, ft_bRn, ft_isr, ft_isn, ft_ifn, ft_ifr, ft_ov, ft_ovn, ft_in, k_sI, n_sI, R_sI, J_sI, c_sI, z_sI, k_sJ, n_sJ, R_sJ, I_sJ, c_sJ, z_sJ, k_sR, n_sR, I_sR, J_sR, c_sR, z_sR, k_wI, n_wI, R_wI, J_wI, I_wIe, k_wJ, n_wJ, R_wJ, I_wJ, J_wJe, I_wIn, J_wJn, I_sIe, J_sJe, R_sRe, I_sIn, I_sIk, J_sJn, J_sJk, R_sRn, R_sRk, eq_self, if_true, if_false, ↓reduceIte, cond_true, cond_false, ↓cond_eq_ite, and_true, true_and, and_false, false_and, or_true, true_or, or_false, false_or, not_true_eq_false, not_false_eq_true, ft_ltT, ft_ltF, ft_eqT, ft_eqF, Bool.false_eq_true, Bool.true_eq_false, Bool.not_true, Bool.not_false, Bool.and_true, Bool.true_and, Bool.and_false, Bool.false_and, decide_true, decide_false, Nat.reduceAdd, Nat.reduceMul, Nat.reduceSub, Nat.reduceEqDiff, Nat.reduceLT, Nat.zero_add, Nat.add_zero, Nat.reduceDiv, Nat.reduceMod, ↓c1, ↓c2, s]
  | d + 1, n, f + 1, h, e, hf, A, I => by
    have bm := W.many
    have e31 : n &&& 31 = n := ft_31 (by omega)
    have l1 : jt k a b < 33554432 := ft_bs_lt _ 25
    have l2 : jt k b a < 33554432 := ft_bs_lt _ 25
    have t1 : (jt k a b).testBit n = (ft_sh k b n && !ft_sh k a n) := bs_tb (by omega)
    have t2 : (jt k b a).testBit n = (ft_sh k a n && !ft_sh k b n) := bs_tb (by omega)
    have e177 : jnK k a b n 177 = k 177 := jnK_o n 177 (by omega) (by omega) (by omega)
    have ea : jnK k a b n (4 + 25 * a + n) = k (4 + 25 * a + n) := jnK_o n _ (by omega) (by omega) (by omega)
    have eb : jnK k a b n (4 + 25 * b + n) = k (4 + 25 * b + n) := jnK_o n _ (by omega) (by omega) (by omega)
    have Wn := jnK_W W (a := a) (b := b) (n := n) (by omega) (by omega) (by omega)
    have sa := W.sheet (w := a) (c := n) (by omega) (by omega)
    have sb := W.sheet (w := b) (c := n) (by omega) (by omega)
    cases q : jx k a b n with
    | true =>
      have z : jnK k a b (n + 1) = va_up (va_up (jnK k a b n) (4 + 25 * a + n) (k (4 + 25 * a + n) + k (4 + 25 * b + n))) (4 + 25 * b + n) (k (4 + 25 * a + n) + k (4 + 25 * b + n)) := by
        show (if jx k a b n then _ else _) = _
        rw [if_pos q]
      rcases jx_sum q with ⟨q1, q2⟩ | ⟨q1, q2⟩
      · have s1 : ft_sh k a n = false := decide_eq_false (by omega)
        have s2 : ft_sh k b n = true := decide_eq_true q2
        rw [s1, s2] at t1 t2
        have ks := bI_of (U_kos (F := F) A I Wn (w := b) (c := n) (by omega) (by omega))
        obtain ⟨g, hg⟩ : ∃ g, k (4 + 25 * b + n) = g + 1 := ⟨k (4 + 25 * b + n) - 1, by omega⟩
        rw [eb, hg, iV_s] at ks
        obtain ⟨h1, e1, x1, I1⟩ := U_mark (F := F) A I Wn (w := a) (c := n) (v := g) (by omega) (by omega) (by omega)
        have z2 : jnK k a b (n + 1) = va_up (jnK k a b n) (4 + 25 * a + n) (g + 1) := by
          rw [z, q1, hg, Nat.zero_add]
          exact va_id (by rw [va_n (by omega), eb, hg])
        rw [← z2] at I1
        obtain ⟨h', e2, x2, I2⟩ := U_join_36 (F := F) W ha hb hab d (n + 1) f h1 (by omega) (by omega) (A.fr x1 (fun _ n => n)) I1
        refine ⟨h', ?_, (x1.up (fun x i d => by unfold dS at d; unfold dJ; omega) (fun _ _ n => n)).t x2, I2⟩
        have m1 := bV_of e1
        rw [← e2, q_L_joinSheets_36]
        simp (disch := first | exact sR_rfl _ _ rfl | omega) only [ft_lit, ft_m1, ft_m2, ft_m3, ft_m5, ft_m6, ft_cl, ft_lt, ft_le, ft_eq, ft_mlt, ft_ltm, ft_mltm, ft_meq, ft_eqm, ft_meqm, ft_add, ft_mul, ft_sub, ft_nm, ft_m1p, ft_and, ft_or, ft_31, ft_shl, ft_shr, ft_bz, ft_z0, ft_z1, ft_z01, ft_bb, ft_zt, ft_zf, ft_or0, ft_rv, ft_rvr, ft_rf, ft_rfn, ft_bI, ft_bJ, ft_bV, ft_bR, ft_bRn, ft_isr, ft_isn, ft_ifn, ft_ifr, ft_ov, ft_ovn, ft_in, k_sI, n_sI, R_sI, J_sI, c_sI, z_sI, k_sJ, n_sJ, R_sJ, I_sJ, c_sJ, z_sJ, k_sR, n_sR, I_sR, J_sR, c_sR, z_sR, k_wI, n_wI, R_wI, J_wI, I_wIe, k_wJ, n_wJ, R_wJ, I_wJ, J_wJe, I_wIn, J_wJn, I_sIe, J_sJe, R_sRe, I_sIn, I_sIk, J_sJn, J_sJk, R_sRn, R_sRk, eq_self, if_true, if_false, ↓reduceIte, cond_true, cond_false, ↓cond_eq_ite, and_true, true_and, and_false, false_and, or_true, true_or, or_false, false_or, not_true_eq_false, not_false_eq_true, ft_ltT, ft_ltF, ft_eqT, ft_eqF, Bool.false_eq_true, Bool.true_eq_false, Bool.not_true, Bool.not_false, Bool.and_true, Bool.true_and, Bool.and_false, Bool.false_and, decide_true, decide_false, Nat.reduceAdd, Nat.reduceMul, Nat.reduceSub, Nat.reduceEqDiff, Nat.reduceLT, Nat.zero_add, Nat.add_zero, Nat.reduceDiv, Nat.reduceMod, A.1, e31, t1, ↓ks, ↓m1]
      · have s1 : ft_sh k a n = true := decide_eq_true q2
        have s2 : ft_sh k b n = false := decide_eq_false (by omega)
        rw [s1, s2] at t1 t2
        have ks := bI_of (U_kos (F := F) A I Wn (w := a) (c := n) (by omega) (by omega))
        obtain ⟨g, hg⟩ : ∃ g, k (4 + 25 * a + n) = g + 1 := ⟨k (4 + 25 * a + n) - 1, by omega⟩
        rw [ea, hg, iV_s] at ks
        obtain ⟨h1, e1, x1, I1⟩ := U_mark (F := F) A I Wn (w := b) (c := n) (v := g) (by omega) (by omega) (by omega)
        have z2 : jnK k a b (n + 1) = va_up (jnK k a b n) (4 + 25 * b + n) (g + 1) := by
          rw [z, q1, hg, Nat.add_zero]
          congr 1
          exact va_id (by rw [ea, hg])
        rw [← z2] at I1
        obtain ⟨h', e2, x2, I2⟩ := U_join_36 (F := F) W ha hb hab d (n + 1) f h1 (by omega) (by omega) (A.fr x1 (fun _ n => n)) I1
        refine ⟨h', ?_, (x1.up (fun x i d => by unfold dS at d; unfold dJ; omega) (fun _ _ n => n)).t x2, I2⟩
        have m1 := bV_of e1
        rw [← e2, q_L_joinSheets_36]
        simp (disch := first | exact sR_rfl _ _ rfl | omega) only [ft_lit, ft_m1, ft_m2, ft_m3, ft_m5, ft_m6, ft_cl, ft_lt, ft_le, ft_eq, ft_mlt, ft_ltm, ft_mltm, ft_meq, ft_eqm, ft_meqm, ft_add, ft_mul, ft_sub, ft_nm, ft_m1p, ft_and, ft_or, ft_31, ft_shl, ft_shr, ft_bz, ft_z0, ft_z1, ft_z01, ft_bb, ft_zt, ft_zf, ft_or0, ft_rv, ft_rvr, ft_rf, ft_rfn, ft_bI, ft_bJ, ft_bV, ft_bR, ft_bRn, ft_isr, ft_isn, ft_ifn, ft_ifr, ft_ov, ft_ovn, ft_in, k_sI, n_sI, R_sI, J_sI, c_sI, z_sI, k_sJ, n_sJ, R_sJ, I_sJ, c_sJ, z_sJ, k_sR, n_sR, I_sR, J_sR, c_sR, z_sR, k_wI, n_wI, R_wI, J_wI, I_wIe, k_wJ, n_wJ, R_wJ, I_wJ, J_wJe, I_wIn, J_wJn, I_sIe, J_sJe, R_sRe, I_sIn, I_sIk, J_sJn, J_sJk, R_sRn, R_sRk, eq_self, if_true, if_false, ↓reduceIte, cond_true, cond_false, ↓cond_eq_ite, and_true, true_and, and_false, false_and, or_true, true_or, or_false, false_or, not_true_eq_false, not_false_eq_true, ft_ltT, ft_ltF, ft_eqT, ft_eqF, Bool.false_eq_true, Bool.true_eq_false, Bool.not_true, Bool.not_false, Bool.and_true, Bool.true_and, Bool.and_false, Bool.false_and, decide_true, decide_false, Nat.reduceAdd, Nat.reduceMul, Nat.reduceSub, Nat.reduceEqDiff, Nat.reduceLT, Nat.zero_add, Nat.add_zero, Nat.reduceDiv, Nat.reduceMod, A.1, e31, t1, t2, ↓ks, ↓m1]
    | false =>
      have z : jnK k a b (n + 1) = jnK k a b n := by
        show (if jx k a b n then _ else _) = _
        rw [if_neg (by rw [q]; decide)]
      have t3 : (jt k a b).testBit n = false := by
        rw [t1]; unfold jx at q
        revert q; cases ft_sh k a n <;> cases ft_sh k b n <;> simp
      have t4 : (jt k b a).testBit n = false := by
        rw [t2]; unfold jx at q
        revert q; cases ft_sh k a n <;> cases ft_sh k b n <;> simp
      rw [← z] at I
      obtain ⟨h', e2, x2, I2⟩ := U_join_36 (F := F) W ha hb hab d (n + 1) f h (by omega) (by omega) A I
      refine ⟨h', ?_, x2, I2⟩
      rw [← e2, q_L_joinSheets_36]
      simp (disch := first | exact sR_rfl _ _ rfl | omega) only [ft_lit, ft_m1, ft_m2, ft_m3, ft_m5, ft_m6, ft_cl, ft_lt, ft_le, ft_eq, ft_mlt, ft_ltm, ft_mltm, ft_meq, ft_eqm, ft_meqm, ft_add, ft_mul, ft_sub, ft_nm, ft_m1p, ft_and, ft_or, ft_31, ft_shl, ft_shr, ft_bz, ft_z0, ft_z1, ft_z01, ft_bb, ft_zt, ft_zf, ft_or0, ft_rv, ft_rvr, ft_rf, ft_rfn, ft_bI, ft_bJ, ft_bV, ft_bR, ft_bRn, ft_isr, ft_isn, ft_ifn, ft_ifr, ft_ov, ft_ovn, ft_in, k_sI, n_sI, R_sI, J_sI, c_sI, z_sI, k_sJ, n_sJ, R_sJ, I_sJ, c_sJ, z_sJ, k_sR, n_sR, I_sR, J_sR, c_sR, z_sR, k_wI, n_wI, R_wI, J_wI, I_wIe, k_wJ, n_wJ, R_wJ, I_wJ, J_wJe, I_wIn, J_wJn, I_sIe, J_sJe, R_sRe, I_sIn, I_sIk, J_sJn, J_sJk, R_sRn, R_sRk, eq_self, if_true, if_false, ↓reduceIte, cond_true, cond_false, ↓cond_eq_ite, and_true, true_and, and_false, false_and, or_true, true_or, or_false, false_or, not_true_eq_false, not_false_eq_true, ft_ltT, ft_ltF, ft_eqT, ft_eqF, Bool.false_eq_true, Bool.true_eq_false, Bool.not_true, Bool.not_false, Bool.and_true, Bool.true_and, Bool.and_false, Bool.false_and, decide_true, decide_false, Nat.reduceAdd, Nat.reduceMul, Nat.reduceSub, Nat.reduceEqDiff, Nat.reduceLT, Nat.zero_add, Nat.add_zero, Nat.reduceDiv, Nat.reduceMod, e31, t3, t4]
theorem U_join {F : Nat × Nat} (hF : FF F) {h : jH} {o : Nat} {k : Nat → Nat} (A : LA h o) (I : LI h o k) (W : WK k) {a b : Nat} (ha : a < k 177) (hb : b < k 177) (hab : a ≠ b) : ∃ h', m_L_joinSheets F o (nI a) (nI b) h = some (some (.int (nI (cnt (jx k a b) 25))), h') ∧ jX (dJ o a b) jN h h' ∧ LI h' o (jnK k a b 25) := by
  have bm := W.many
  have hF1 := hF.1
  obtain ⟨h', e, x, I2⟩ := U_join_36 (F := F) W ha hb hab 25 0 F.1 h rfl (by omega) A I
  refine ⟨h', ?_, x, I2⟩
  have ia := (I.2.2.2.1 a ha).2.2.2.1
  have ib := (I.2.2.2.1 b hb).2.2.2.1
  have t1 : nI (ft_bs (ft_sh k b) 25) &&& (nI (ft_bs (ft_sh k a) 25) ^^^ mI 0) = nI (jt k a b) := by
    rw [x_andn (sh_lt k b)]
    congr 1
    exact ft_bs_e 25 (fun i hi => by rw [bs_tb hi, bs_tb hi])
  have t2 : nI (ft_bs (ft_sh k a) 25) &&& (nI (ft_bs (ft_sh k b) 25) ^^^ mI 0) = nI (jt k b a) := by
    rw [x_andn (sh_lt k a)]
    congr 1
    exact ft_bs_e 25 (fun i hi => by rw [bs_tb hi, bs_tb hi])
  rw [← e, q_L_joinSheets]
  simp (disch := first | exact sR_rfl _ _ rfl | omega) only [ft_lit, ft_m1, ft_m2, ft_m3, ft_m5, ft_m6, ft_cl, ft_lt, ft_le, ft_eq, ft_mlt, ft_ltm, ft_mltm, ft_meq, ft_eqm, ft_meqm, ft_add, ft_mul, ft_sub, ft_nm, ft_m1p, ft_and, ft_or, ft_31, ft_shl, ft_shr, ft_bz, ft_z0, ft_z1, ft_z01, ft_bb, ft_zt, ft_zf, ft_or0, ft_rv, ft_rvr, ft_rf, ft_rfn, ft_bI, ft_bJ, ft_bV, ft_bR, ft_bRn, ft_isr, ft_isn, ft_ifn, ft_ifr, ft_ov, ft_ovn, ft_in, k_sI, n_sI, R_sI, J_sI, c_sI, z_sI, k_sJ, n_sJ, R_sJ, I_sJ, c_sJ, z_sJ, k_sR, n_sR, I_sR, J_sR, c_sR, z_sR, k_wI, n_wI, R_wI, J_wI, I_wIe, k_wJ, n_wJ, R_wJ, I_wJ, J_wJe, I_wIn, J_wJn, I_sIe, J_sJe, R_sRe, I_sIn, I_sIk, J_sJn, J_sJk, R_sRn, R_sRk, eq_self, if_true, if_false, ↓reduceIte, cond_true, cond_false, ↓cond_eq_ite, and_true, true_and, and_false, false_and, or_true, true_or, or_false, false_or, not_true_eq_false, not_false_eq_true, ft_ltT, ft_ltF, ft_eqT, ft_eqF, Bool.false_eq_true, Bool.true_eq_false, Bool.not_true, Bool.not_false, Bool.and_true, Bool.true_and, Bool.and_false, Bool.false_and, decide_true, decide_false, Nat.reduceAdd, Nat.reduceMul, Nat.reduceSub, Nat.reduceEqDiff, Nat.reduceLT, Nat.zero_add, Nat.add_zero, Nat.reduceDiv, Nat.reduceMod, A.1, ↓la_v0 A, ↓la_v1 A, ↓la_v3 A, ↓la_v4 A, ↓la_v5 A, ↓la_v6 A, ↓la_v7 A, ↓la_v9 A, ↓la_v10 A, ↓la_v11 A, ↓la_v12 A, la_k1 A, la_n1 A, la_k2 A, la_n2 A, la_k3 A, la_n3 A, la_k4 A, la_n4 A, la_k5 A, la_n5 A, la_k6 A, la_n6 A, la_k7 A, la_n7 A, la_k8 A, la_n8 A, la_k9 A, la_n9 A, la_k10 A, la_n10 A, la_k11 A, la_n11 A, ia, ib, t1, t2]
