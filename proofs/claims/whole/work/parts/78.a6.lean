/-! SHEETS OF THE CLASS ARE MARKED AND BLANKED -/
def dS (o w : Nat) : Nat → Nat → Prop := fun a i => (a = o + 6 ∨ a = o + 7) ∧ i = w
def kAg (w : Nat) (k k' : Nat → Nat) : Prop := ∀ i, ¬ (4 + 25 * w ≤ i ∧ i < 4 + 25 * w + 25) → k' i = k i
theorem kAg.up {w c x : Nat} {k : Nat → Nat} (hc : c < 25) : kAg w k (va_up k (4 + 25 * w + c) x) := fun i h => by
  unfold va_up
  rw [if_neg (by omega)]
theorem kAg.sh {w v : Nat} {k k' : Nat → Nat} (a : kAg w k k') (h : v ≠ w) : ft_bs (ft_sh k' v) 25 = ft_bs (ft_sh k v) 25 := by
  apply ft_bs_e
  intro i hi
  unfold ft_sh
  rw [a _ (by omega)]
theorem kAg.mk2 {w v : Nat} {k k' : Nat → Nat} (a : kAg w k k') (h : v ≠ w) : mrk k' v = mrk k v := by
  unfold mrk
  apply ft_bs_e
  intro i hi
  show (k' _ - 1).testBit _ = (k _ - 1).testBit _
  rw [a _ (by omega)]
theorem LI.sheet {h h' : jH} {o w : Nat} {k k' : Nat → Nat} (I : LI h o k) (b : k 177 ≤ 4) (hw : w < 4) (a : kAg w k k') (x : jX (dS o w) jN h h') (e6 : j_I h' (o + 6) w = nI (ft_bs (ft_sh k' w) 25)) (e7 : j_J h' (o + 7) w = lN (mrk k' w)) : LI h' o k' := by
  obtain ⟨i1, i2, i3, i4, i5, i6, i7, i8, i9, i10, i11⟩ := I
  have e : ∀ j i, j ≠ 6 → j ≠ 7 → j_I h' (o + j) i = j_I h (o + j) i := fun j i n1 n2 => x.I (by unfold dS; omega)
  have e0 : ∀ i, j_I h' o i = j_I h o i := fun i => e 0 i (by omega) (by omega)
  have kk : ∀ i, 104 ≤ i → k' i = k i := fun i hi => a i (by omega)
  have ks : ∀ i, i < 4 → k' i = k i := fun i hi => a i (by omega)
  have k177 := kk 177 (by omega)
  refine ⟨fun c hc => ?_, fun c hc => ?_, ?_, fun v hv => ?_, ?_, fun g hg => ?_, ?_, ?_, ?_, ?_, ?_⟩
  · rw [e 1 c (by omega) (by omega), i1 c hc, kk _ (by omega)]
  · rw [e 2 c (by omega) (by omega), i2 c hc, kk _ (by omega)]
  · rw [e0, i3, k177]
  · rw [k177] at hv
    obtain ⟨j1, j2, j3, j4, j5⟩ := i4 v hv
    by_cases vw : v = w
    · rw [e 3 v (by omega) (by omega), e 4 v (by omega) (by omega), e 5 v (by omega) (by omega), j1, j2, j3, kk (155 + v) (by omega), kk (159 + v) (by omega), vw, ks w hw]
      exact ⟨rfl, rfl, rfl, e6, e7⟩
    · have v4 : v < 4 := by omega
      rw [e 3 v (by omega) (by omega), e 4 v (by omega) (by omega), e 5 v (by omega) (by omega), j1, j2, j3, kk (155 + v) (by omega), kk (159 + v) (by omega), ks v v4, x.I (by unfold dS; omega), x.J (by unfold dS; omega), j4, j5, a.sh vw, a.mk2 vw]
      exact ⟨rfl, rfl, rfl, rfl, rfl⟩
  · rw [e0, i5, kk _ (by omega)]
  · rw [kk 178 (by omega)] at hg
    rw [e 8 g (by omega) (by omega), e 9 g (by omega) (by omega), (i6 g hg).1, (i6 g hg).2, kk (163 + 2 * g) (by omega), kk (164 + 2 * g) (by omega)]
    exact ⟨rfl, rfl⟩
  · rw [e 10 0 (by omega) (by omega), i7, kk _ (by omega)]
  · rw [e 10 1 (by omega) (by omega), i8, kk _ (by omega)]
  · rw [e 10 2 (by omega) (by omega), i9, kk _ (by omega)]
  · rw [e0, i10, kk _ (by omega)]
  · rw [e0, i11, kk _ (by omega)]
theorem U_blank {F : Nat × Nat} {h : jH} {o : Nat} {k : Nat → Nat} (A : LA h o) (I : LI h o k) (W : WK k) {w c : Nat} (hw : w < k 177) (hc : c < 25) : ∃ h', m_L_blank F o (nI w) (nI c) h = some (none, h') ∧ jX (dS o w) jN h h' ∧ LI h' o (va_up k (4 + 25 * w + c) 0) := by
  have b := W.many
  have i6 := (I.2.2.2.1 w hw).2.2.2.1
  have i7 := (I.2.2.2.1 w hw).2.2.2.2
  have e31 : c &&& 31 = c := ft_31 (by omega)
  have x6 := x_clr (sh_lt k w) hc
  have x7 := y_clr (mrk_lt k w) hc
  have x : jX (dS o w) jN h (j_sJ (j_sI h (o + 6) w (nI (ft_bs (fun i => (ft_bs (ft_sh k w) 25).testBit i && !decide (i = c)) 25))) (o + 7) w (lN (ft_bs (fun i => (mrk k w).testBit i && !decide (i / 2 = c)) 50))) := (jX.rf.sI (by unfold dS; omega)).sJ (by unfold dS; omega)
  refine ⟨_, ?_, x, I.sheet b (by omega) (kAg.up hc) x ?_ ?_⟩
  · rw [q_L_blank]
    simp (disch := first | exact sR_rfl _ _ rfl | omega) only [ft_lit, ft_m1, ft_m2, ft_m3, ft_m5, ft_m6, ft_cl, ft_lt, ft_le, ft_eq, ft_mlt, ft_ltm, ft_mltm, ft_meq, ft_eqm, ft_meqm, ft_add, ft_mul, ft_sub, ft_nm, ft_m1p, ft_and, ft_or, ft_31, ft_shl, ft_shr, ft_bz, ft_z0, ft_z1, ft_z01, ft_bb, ft_zt, ft_zf, ft_or0, ft_rv, ft_rvr, ft_rf, ft_rfn, ft_bI, ft_bJ, ft_bV, ft_bR, ft_bRn, ft_isr, ft_isn, ft_ifn, ft_ifr, ft_ov, ft_ovn, ft_in, k_sI, n_sI, R_sI, J_sI, c_sI, z_sI, k_sJ, n_sJ, R_sJ, I_sJ, c_sJ, z_sJ, k_sR, n_sR, I_sR, J_sR, c_sR, z_sR, k_wI, n_wI, R_wI, J_wI, I_wIe, k_wJ, n_wJ, R_wJ, I_wJ, J_wJe, I_wIn, J_wJn, I_sIe, J_sJe, R_sRe, I_sIn, I_sIk, J_sJn, J_sJk, R_sRn, R_sRk, eq_self, if_true, if_false, ↓reduceIte, cond_true, cond_false, ↓cond_eq_ite, and_true, true_and, and_false, false_and, or_true, true_or, or_false, false_or, not_true_eq_false, not_false_eq_true, ft_ltT, ft_ltF, ft_eqT, ft_eqF, Bool.false_eq_true, Bool.true_eq_false, Bool.not_true, Bool.not_false, Bool.and_true, Bool.true_and, Bool.and_false, Bool.false_and, decide_true, decide_false, Nat.reduceAdd, Nat.reduceMul, Nat.reduceSub, Nat.reduceEqDiff, Nat.reduceLT, Nat.zero_add, Nat.add_zero, Nat.reduceDiv, Nat.reduceMod, A.1, ↓la_v0 A, ↓la_v1 A, ↓la_v3 A, ↓la_v4 A, ↓la_v5 A, ↓la_v6 A, ↓la_v7 A, ↓la_v9 A, ↓la_v10 A, ↓la_v11 A, ↓la_v12 A, la_k1 A, la_n1 A, la_k2 A, la_n2 A, la_k3 A, la_n3 A, la_k4 A, la_n4 A, la_k5 A, la_n5 A, la_k6 A, la_n6 A, la_k7 A, la_n7 A, la_k8 A, la_n8 A, la_k9 A, la_n9 A, la_k10 A, la_n10 A, la_k11 A, la_n11 A, i6, i7, e31, x6, x7]
  · rw [I_sJ, I_sIe, sh_up hc]
    congr 1
    apply ft_bs_e
    intro i hi
    by_cases e : i = c
    · simp [e]
    · simp [e]
  · rw [J_sJe, mrk_up hc]
    congr 1
    apply ft_bs_e
    intro i hi
    by_cases e : i / 2 = c
    · simp [e]
    · simp [e]
theorem va_upup (k : Nat → Nat) (a x y : Nat) : va_up (va_up k a x) a y = va_up k a y := by
  funext i
  unfold va_up
  by_cases e : i = a
  · rw [if_pos e, if_pos e]
  · rw [if_neg e, if_neg e, if_neg e]
theorem U_mark {F : Nat × Nat} {h : jH} {o : Nat} {k : Nat → Nat} (A : LA h o) (I : LI h o k) (W : WK k) {w c v : Nat} (hw : w < k 177) (hc : c < 25) (hv : v < 4) : ∃ h', m_L_mark F o (nI w) (nI c) (nI v) h = some (none, h') ∧ jX (dS o w) jN h h' ∧ LI h' o (va_up k (4 + 25 * w + c) (v + 1)) := by
  have b := W.many
  obtain ⟨h1, e1, x1, I1⟩ := U_blank (F := F) A I W hw hc
  have A1 := A.fr x1 (fun i n => n)
  have hz : (va_up k (4 + 25 * w + c) 0) (4 + 25 * w + c) = 0 := by unfold va_up; rw [if_pos rfl]
  have h177 : (va_up k (4 + 25 * w + c) 0) 177 = k 177 := (kAg.up (x := 0) hc) 177 (by omega)
  have hu := va_upup k (4 + 25 * w + c) 0 (v + 1)
  generalize va_up k (4 + 25 * w + c) 0 = k1 at I1 hz h177 hu
  have hw1 : w < k1 177 := by omega
  have i6 := (I1.2.2.2.1 w hw1).2.2.2.1
  have i7 := (I1.2.2.2.1 w hw1).2.2.2.2
  have e31 : c &&& 31 = c := ft_31 (by omega)
  have x6 := x_set (sh_lt k1 w) hc
  have x7 := y_set (mrk_lt k1 w) hc hv
  have x : jX (dS o w) jN h1 (j_sJ (j_sI h1 (o + 6) w (nI (ft_bs (fun i => (ft_bs (ft_sh k1 w) 25).testBit i || decide (i = c)) 25))) (o + 7) w (lN (ft_bs (fun i => (mrk k1 w).testBit i || (decide (i / 2 = c) && v.testBit (i % 2))) 50))) := (jX.rf.sI (by unfold dS; omega)).sJ (by unfold dS; omega)
  have I2 := I1.sheet (k' := va_up k1 (4 + 25 * w + c) (v + 1)) (by omega) (by omega) (kAg.up hc) x (by
    rw [I_sJ, I_sIe, sh_up hc]
    congr 1
    apply ft_bs_e
    intro i hi
    by_cases e : i = c
    · simp [e]
    · simp [e]) (by
    rw [J_sJe, mrk_up hc]
    congr 1
    apply ft_bs_e
    intro i hi
    by_cases e : i / 2 = c
    · have z : (mrk k1 w).testBit i = false := by
        unfold mrk
        rw [ft_bs_t, e, hz]
        simp
      rw [z]
      simp [e]
    · simp [e])
  rw [hu] at I2
  refine ⟨_, ?_, x1.t x, I2⟩
  rw [q_L_mark, if_pos A.1, bV_of e1]
  simp (disch := first | exact sR_rfl _ _ rfl | omega) only [ft_lit, ft_m1, ft_m2, ft_m3, ft_m5, ft_m6, ft_cl, ft_lt, ft_le, ft_eq, ft_mlt, ft_ltm, ft_mltm, ft_meq, ft_eqm, ft_meqm, ft_add, ft_mul, ft_sub, ft_nm, ft_m1p, ft_and, ft_or, ft_31, ft_shl, ft_shr, ft_bz, ft_z0, ft_z1, ft_z01, ft_bb, ft_zt, ft_zf, ft_or0, ft_rv, ft_rvr, ft_rf, ft_rfn, ft_bI, ft_bJ, ft_bV, ft_bR, ft_bRn, ft_isr, ft_isn, ft_ifn, ft_ifr, ft_ov, ft_ovn, ft_in, k_sI, n_sI, R_sI, J_sI, c_sI, z_sI, k_sJ, n_sJ, R_sJ, I_sJ, c_sJ, z_sJ, k_sR, n_sR, I_sR, J_sR, c_sR, z_sR, k_wI, n_wI, R_wI, J_wI, I_wIe, k_wJ, n_wJ, R_wJ, I_wJ, J_wJe, I_wIn, J_wJn, I_sIe, J_sJe, R_sRe, I_sIn, I_sIk, J_sJn, J_sJk, R_sRn, R_sRk, eq_self, if_true, if_false, ↓reduceIte, cond_true, cond_false, ↓cond_eq_ite, and_true, true_and, and_false, false_and, or_true, true_or, or_false, false_or, not_true_eq_false, not_false_eq_true, ft_ltT, ft_ltF, ft_eqT, ft_eqF, Bool.false_eq_true, Bool.true_eq_false, Bool.not_true, Bool.not_false, Bool.and_true, Bool.true_and, Bool.and_false, Bool.false_and, decide_true, decide_false, Nat.reduceAdd, Nat.reduceMul, Nat.reduceSub, Nat.reduceEqDiff, Nat.reduceLT, Nat.zero_add, Nat.add_zero, Nat.reduceDiv, Nat.reduceMod, A1.1, ↓la_v0 A1, ↓la_v1 A1, ↓la_v3 A1, ↓la_v4 A1, ↓la_v5 A1, ↓la_v6 A1, ↓la_v7 A1, ↓la_v9 A1, ↓la_v10 A1, ↓la_v11 A1, ↓la_v12 A1, la_k1 A1, la_n1 A1, la_k2 A1, la_n2 A1, la_k3 A1, la_n3 A1, la_k4 A1, la_n4 A1, la_k5 A1, la_n5 A1, la_k6 A1, la_n6 A1, la_k7 A1, la_n7 A1, la_k8 A1, la_n8 A1, la_k9 A1, la_n9 A1, la_k10 A1, la_n10 A1, la_k11 A1, la_n11 A1, i6, i7, e31, x6, x7]
theorem U_kos {F : Nat × Nat} {h : jH} {o : Nat} {k : Nat → Nat} (A : LA h o) (I : LI h o k) (W : WK k) {w c : Nat} (hw : w < k 177) (hc : c < 25) : m_L_kindOnSheet F o (nI w) (nI c) h = some (some (.int (iV (k (4 + 25 * w + c)))), h) := by
  have b := W.many
  have kn := U_knows_b (F := F) A I W hw hc
  have i7 := (I.2.2.2.1 w hw).2.2.2.2
  have g := mrk_get W (w := w) (by omega) hc
  unfold iV
  by_cases q : k (4 + 25 * w + c) = 0
  · have s : ft_sh k w c = false := decide_eq_false (by omega)
    rw [s] at kn
    rw [if_pos q]
    simp (disch := first | exact sR_rfl _ _ rfl | omega) only [q_L_kindOnSheet, ft_lit, ft_m1, ft_m2, ft_m3, ft_m5, ft_m6, ft_cl, ft_lt, ft_le, ft_eq, ft_mlt, ft_ltm, ft_mltm, ft_meq, ft_eqm, ft_meqm, ft_add, ft_mul, ft_sub, ft_nm, ft_m1p, ft_and, ft_or, ft_31, ft_shl, ft_shr, ft_bz, ft_z0, ft_z1, ft_z01, ft_bb, ft_zt, ft_zf, ft_or0, ft_rv, ft_rvr, ft_rf, ft_rfn, ft_bI, ft_bJ, ft_bV, ft_bR, ft_bRn, ft_isr, ft_isn, ft_ifn, ft_ifr, ft_ov, ft_ovn, ft_in, k_sI, n_sI, R_sI, J_sI, c_sI, z_sI, k_sJ, n_sJ, R_sJ, I_sJ, c_sJ, z_sJ, k_sR, n_sR, I_sR, J_sR, c_sR, z_sR, k_wI, n_wI, R_wI, J_wI, I_wIe, k_wJ, n_wJ, R_wJ, I_wJ, J_wJe, I_wIn, J_wJn, I_sIe, J_sJe, R_sRe, I_sIn, I_sIk, J_sJn, J_sJk, R_sRn, R_sRk, eq_self, if_true, if_false, ↓reduceIte, cond_true, cond_false, ↓cond_eq_ite, and_true, true_and, and_false, false_and, or_true, true_or, or_false, false_or, not_true_eq_false, not_false_eq_true, ft_ltT, ft_ltF, ft_eqT, ft_eqF, Bool.false_eq_true, Bool.true_eq_false, Bool.not_true, Bool.not_false, Bool.and_true, Bool.true_and, Bool.and_false, Bool.false_and, decide_true, decide_false, Nat.reduceAdd, Nat.reduceMul, Nat.reduceSub, Nat.reduceEqDiff, Nat.reduceLT, Nat.zero_add, Nat.add_zero, Nat.reduceDiv, Nat.reduceMod, A.1, ↓la_v0 A, ↓la_v1 A, ↓la_v3 A, ↓la_v4 A, ↓la_v5 A, ↓la_v6 A, ↓la_v7 A, ↓la_v9 A, ↓la_v10 A, ↓la_v11 A, ↓la_v12 A, la_k1 A, la_n1 A, la_k2 A, la_n2 A, la_k3 A, la_n3 A, la_k4 A, la_n4 A, la_k5 A, la_n5 A, la_k6 A, la_n6 A, la_k7 A, la_n7 A, la_k8 A, la_n8 A, la_k9 A, la_n9 A, la_k10 A, la_n10 A, la_k11 A, la_n11 A, ↓kn]
  · have s : ft_sh k w c = true := decide_eq_true (by omega)
    rw [s] at kn
    rw [if_neg q, ← g]
    simp (disch := first | exact sR_rfl _ _ rfl | omega) only [q_L_kindOnSheet, ft_lit, ft_m1, ft_m2, ft_m3, ft_m5, ft_m6, ft_cl, ft_lt, ft_le, ft_eq, ft_mlt, ft_ltm, ft_mltm, ft_meq, ft_eqm, ft_meqm, ft_add, ft_mul, ft_sub, ft_nm, ft_m1p, ft_and, ft_or, ft_31, ft_shl, ft_shr, ft_bz, ft_z0, ft_z1, ft_z01, ft_bb, ft_zt, ft_zf, ft_or0, ft_rv, ft_rvr, ft_rf, ft_rfn, ft_bI, ft_bJ, ft_bV, ft_bR, ft_bRn, ft_isr, ft_isn, ft_ifn, ft_ifr, ft_ov, ft_ovn, ft_in, k_sI, n_sI, R_sI, J_sI, c_sI, z_sI, k_sJ, n_sJ, R_sJ, I_sJ, c_sJ, z_sJ, k_sR, n_sR, I_sR, J_sR, c_sR, z_sR, k_wI, n_wI, R_wI, J_wI, I_wIe, k_wJ, n_wJ, R_wJ, I_wJ, J_wJe, I_wIn, J_wJn, I_sIe, J_sJe, R_sRe, I_sIn, I_sIk, J_sJn, J_sJk, R_sRn, R_sRk, eq_self, if_true, if_false, ↓reduceIte, cond_true, cond_false, ↓cond_eq_ite, and_true, true_and, and_false, false_and, or_true, true_or, or_false, false_or, not_true_eq_false, not_false_eq_true, ft_ltT, ft_ltF, ft_eqT, ft_eqF, Bool.false_eq_true, Bool.true_eq_false, Bool.not_true, Bool.not_false, Bool.and_true, Bool.true_and, Bool.and_false, Bool.false_and, decide_true, decide_false, Nat.reduceAdd, Nat.reduceMul, Nat.reduceSub, Nat.reduceEqDiff, Nat.reduceLT, Nat.zero_add, Nat.add_zero, Nat.reduceDiv, Nat.reduceMod, A.1, ↓la_v0 A, ↓la_v1 A, ↓la_v3 A, ↓la_v4 A, ↓la_v5 A, ↓la_v6 A, ↓la_v7 A, ↓la_v9 A, ↓la_v10 A, ↓la_v11 A, ↓la_v12 A, la_k1 A, la_n1 A, la_k2 A, la_n2 A, la_k3 A, la_n3 A, la_k4 A, la_n4 A, la_k5 A, la_n5 A, la_k6 A, la_n6 A, la_k7 A, la_n7 A, la_k8 A, la_n8 A, la_k9 A, la_n9 A, la_k10 A, la_n10 A, la_k11 A, la_n11 A, ↓kn, i7]
theorem U_kos_b {F : Nat × Nat} {h : jH} {o : Nat} {k : Nat → Nat} (A : LA h o) (I : LI h o k) (W : WK k) {w c : Nat} (hw : w < k 177) (hc : c < 25) (ff : Int32 → jH → Option jO) : jbI (m_L_kindOnSheet F o (nI w) (nI c) h) ff = ff ((iV (k (4 + 25 * w + c)))) (h) := bI_of (U_kos (F := F) (h := h) (o := o) (k := k) (A := A) (I := I) (W := W) (w := w) (c := c) (hw := hw) (hc := hc)) ff
