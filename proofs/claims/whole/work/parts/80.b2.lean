/-! THE CLASS: ways, sight, coming to a cell, joining -/
theorem C_nb {F : Nat × Nat} {h : jH} {c w : Nat} (hc : c < 25) (hw : w < 5) : m_F_neighbour F (nI c) (nI w) h = some (some (.int (oI (ft_nb c w))), h) := by
  have e5 : nI c - nI (c / 5 * 5) = nI (c % 5) := ft_rem2 c 5
  obtain rfl | rfl | rfl | rfl | rfl : w = 0 ∨ w = 1 ∨ w = 2 ∨ w = 3 ∨ w = 4 := by omega
  · simp (disch := first | exact sR_rfl _ _ rfl | omega) only [q_F_neighbour, ft_lit, ft_m1, ft_m2, ft_m3, ft_m5, ft_m6, ft_cl, ft_lt, ft_le, ft_eq, ft_mlt, ft_ltm, ft_mltm, ft_meq, ft_eqm, ft_meqm, ft_add, ft_mul, ft_sub, ft_nm, ft_m1p, ft_and, ft_or, ft_31, ft_shl, ft_shr, ft_bz, ft_z0, ft_z1, ft_z01, ft_bb, ft_zt, ft_zf, ft_or0, ft_rv, ft_rvr, ft_rf, ft_rfn, ft_bI, ft_bJ, ft_bV, ft_bR, ft_bRn, ft_isr, ft_isn, ft_ifn, ft_ifr, ft_ov, ft_ovn, ft_in, k_sI, n_sI, R_sI, J_sI, c_sI, z_sI, k_sJ, n_sJ, R_sJ, I_sJ, c_sJ, z_sJ, k_sR, n_sR, I_sR, J_sR, c_sR, z_sR, k_wI, n_wI, R_wI, J_wI, I_wIe, k_wJ, n_wJ, R_wJ, I_wJ, J_wJe, I_wIn, J_wJn, I_sIe, J_sJe, R_sRe, I_sIn, I_sIk, J_sJn, J_sJk, R_sRn, R_sRk, eq_self, if_true, if_false, ↓reduceIte, cond_true, cond_false, ↓cond_eq_ite, and_true, true_and, and_false, false_and, or_true, true_or, or_false, false_or, not_true_eq_false, not_false_eq_true, ft_ltT, ft_ltF, ft_eqT, ft_eqF, Bool.false_eq_true, Bool.true_eq_false, Bool.not_true, Bool.not_false, Bool.and_true, Bool.true_and, Bool.and_false, Bool.false_and, decide_true, decide_false, Nat.reduceAdd, Nat.reduceMul, Nat.reduceSub, Nat.reduceEqDiff, Nat.reduceLT, Nat.zero_add, Nat.add_zero, Nat.reduceDiv, Nat.reduceMod, ft_nb, oI]
  · by_cases q : c < 20
    · simp (disch := first | exact sR_rfl _ _ rfl | omega) only [q_F_neighbour, ft_lit, ft_m1, ft_m2, ft_m3, ft_m5, ft_m6, ft_cl, ft_lt, ft_le, ft_eq, ft_mlt, ft_ltm, ft_mltm, ft_meq, ft_eqm, ft_meqm, ft_add, ft_mul, ft_sub, ft_nm, ft_m1p, ft_and, ft_or, ft_31, ft_shl, ft_shr, ft_bz, ft_z0, ft_z1, ft_z01, ft_bb, ft_zt, ft_zf, ft_or0, ft_rv, ft_rvr, ft_rf, ft_rfn, ft_bI, ft_bJ, ft_bV, ft_bR, ft_bRn, ft_isr, ft_isn, ft_ifn, ft_ifr, ft_ov, ft_ovn, ft_in, k_sI, n_sI, R_sI, J_sI, c_sI, z_sI, k_sJ, n_sJ, R_sJ, I_sJ, c_sJ, z_sJ, k_sR, n_sR, I_sR, J_sR, c_sR, z_sR, k_wI, n_wI, R_wI, J_wI, I_wIe, k_wJ, n_wJ, R_wJ, I_wJ, J_wJe, I_wIn, J_wJn, I_sIe, J_sJe, R_sRe, I_sIn, I_sIk, J_sJn, J_sJk, R_sRn, R_sRk, eq_self, if_true, if_false, ↓reduceIte, cond_true, cond_false, ↓cond_eq_ite, and_true, true_and, and_false, false_and, or_true, true_or, or_false, false_or, not_true_eq_false, not_false_eq_true, ft_ltT, ft_ltF, ft_eqT, ft_eqF, Bool.false_eq_true, Bool.true_eq_false, Bool.not_true, Bool.not_false, Bool.and_true, Bool.true_and, Bool.and_false, Bool.false_and, decide_true, decide_false, Nat.reduceAdd, Nat.reduceMul, Nat.reduceSub, Nat.reduceEqDiff, Nat.reduceLT, Nat.zero_add, Nat.add_zero, Nat.reduceDiv, Nat.reduceMod, ft_nb, oI, ft_div]
    · simp (disch := first | exact sR_rfl _ _ rfl | omega) only [q_F_neighbour, ft_lit, ft_m1, ft_m2, ft_m3, ft_m5, ft_m6, ft_cl, ft_lt, ft_le, ft_eq, ft_mlt, ft_ltm, ft_mltm, ft_meq, ft_eqm, ft_meqm, ft_add, ft_mul, ft_sub, ft_nm, ft_m1p, ft_and, ft_or, ft_31, ft_shl, ft_shr, ft_bz, ft_z0, ft_z1, ft_z01, ft_bb, ft_zt, ft_zf, ft_or0, ft_rv, ft_rvr, ft_rf, ft_rfn, ft_bI, ft_bJ, ft_bV, ft_bR, ft_bRn, ft_isr, ft_isn, ft_ifn, ft_ifr, ft_ov, ft_ovn, ft_in, k_sI, n_sI, R_sI, J_sI, c_sI, z_sI, k_sJ, n_sJ, R_sJ, I_sJ, c_sJ, z_sJ, k_sR, n_sR, I_sR, J_sR, c_sR, z_sR, k_wI, n_wI, R_wI, J_wI, I_wIe, k_wJ, n_wJ, R_wJ, I_wJ, J_wJe, I_wIn, J_wJn, I_sIe, J_sJe, R_sRe, I_sIn, I_sIk, J_sJn, J_sJk, R_sRn, R_sRk, eq_self, if_true, if_false, ↓reduceIte, cond_true, cond_false, ↓cond_eq_ite, and_true, true_and, and_false, false_and, or_true, true_or, or_false, false_or, not_true_eq_false, not_false_eq_true, ft_ltT, ft_ltF, ft_eqT, ft_eqF, Bool.false_eq_true, Bool.true_eq_false, Bool.not_true, Bool.not_false, Bool.and_true, Bool.true_and, Bool.and_false, Bool.false_and, decide_true, decide_false, Nat.reduceAdd, Nat.reduceMul, Nat.reduceSub, Nat.reduceEqDiff, Nat.reduceLT, Nat.zero_add, Nat.add_zero, Nat.reduceDiv, Nat.reduceMod, ft_nb, oI, ft_div]
  · by_cases q : c % 5 < 4
    · simp (disch := first | exact sR_rfl _ _ rfl | omega) only [q_F_neighbour, ft_nb, ft_div]
      rw [ft_mul, e5]
      simp (disch := first | exact sR_rfl _ _ rfl | omega) only [ft_lit, ft_m1, ft_m2, ft_m3, ft_m5, ft_m6, ft_cl, ft_lt, ft_le, ft_eq, ft_mlt, ft_ltm, ft_mltm, ft_meq, ft_eqm, ft_meqm, ft_add, ft_mul, ft_sub, ft_nm, ft_m1p, ft_and, ft_or, ft_31, ft_shl, ft_shr, ft_bz, ft_z0, ft_z1, ft_z01, ft_bb, ft_zt, ft_zf, ft_or0, ft_rv, ft_rvr, ft_rf, ft_rfn, ft_bI, ft_bJ, ft_bV, ft_bR, ft_bRn, ft_isr, ft_isn, ft_ifn, ft_ifr, ft_ov, ft_ovn, ft_in, k_sI, n_sI, R_sI, J_sI, c_sI, z_sI, k_sJ, n_sJ, R_sJ, I_sJ, c_sJ, z_sJ, k_sR, n_sR, I_sR, J_sR, c_sR, z_sR, k_wI, n_wI, R_wI, J_wI, I_wIe, k_wJ, n_wJ, R_wJ, I_wJ, J_wJe, I_wIn, J_wJn, I_sIe, J_sJe, R_sRe, I_sIn, I_sIk, J_sJn, J_sJk, R_sRn, R_sRk, eq_self, if_true, if_false, ↓reduceIte, cond_true, cond_false, ↓cond_eq_ite, and_true, true_and, and_false, false_and, or_true, true_or, or_false, false_or, not_true_eq_false, not_false_eq_true, ft_ltT, ft_ltF, ft_eqT, ft_eqF, Bool.false_eq_true, Bool.true_eq_false, Bool.not_true, Bool.not_false, Bool.and_true, Bool.true_and, Bool.and_false, Bool.false_and, decide_true, decide_false, Nat.reduceAdd, Nat.reduceMul, Nat.reduceSub, Nat.reduceEqDiff, Nat.reduceLT, Nat.zero_add, Nat.add_zero, Nat.reduceDiv, Nat.reduceMod, oI]
    · simp (disch := first | exact sR_rfl _ _ rfl | omega) only [q_F_neighbour, ft_nb, ft_div]
      rw [ft_mul, e5]
      simp (disch := first | exact sR_rfl _ _ rfl | omega) only [ft_lit, ft_m1, ft_m2, ft_m3, ft_m5, ft_m6, ft_cl, ft_lt, ft_le, ft_eq, ft_mlt, ft_ltm, ft_mltm, ft_meq, ft_eqm, ft_meqm, ft_add, ft_mul, ft_sub, ft_nm, ft_m1p, ft_and, ft_or, ft_31, ft_shl, ft_shr, ft_bz, ft_z0, ft_z1, ft_z01, ft_bb, ft_zt, ft_zf, ft_or0, ft_rv, ft_rvr, ft_rf, ft_rfn, ft_bI, ft_bJ, ft_bV, ft_bR, ft_bRn, ft_isr, ft_isn, ft_ifn, ft_ifr, ft_ov, ft_ovn, ft_in, k_sI, n_sI, R_sI, J_sI, c_sI, z_sI, k_sJ, n_sJ, R_sJ, I_sJ, c_sJ, z_sJ, k_sR, n_sR, I_sR, J_sR, c_sR, z_sR, k_wI, n_wI, R_wI, J_wI, I_wIe, k_wJ, n_wJ, R_wJ, I_wJ, J_wJe, I_wIn, J_wJn, I_sIe, J_sJe, R_sRe, I_sIn, I_sIk, J_sJn, J_sJk, R_sRn, R_sRk, eq_self, if_true, if_false, ↓reduceIte, cond_true, cond_false, ↓cond_eq_ite, and_true, true_and, and_false, false_and, or_true, true_or, or_false, false_or, not_true_eq_false, not_false_eq_true, ft_ltT, ft_ltF, ft_eqT, ft_eqF, Bool.false_eq_true, Bool.true_eq_false, Bool.not_true, Bool.not_false, Bool.and_true, Bool.true_and, Bool.and_false, Bool.false_and, decide_true, decide_false, Nat.reduceAdd, Nat.reduceMul, Nat.reduceSub, Nat.reduceEqDiff, Nat.reduceLT, Nat.zero_add, Nat.add_zero, Nat.reduceDiv, Nat.reduceMod, oI]
  · by_cases q : 5 ≤ c
    · simp (disch := first | exact sR_rfl _ _ rfl | omega) only [q_F_neighbour, ft_lit, ft_m1, ft_m2, ft_m3, ft_m5, ft_m6, ft_cl, ft_lt, ft_le, ft_eq, ft_mlt, ft_ltm, ft_mltm, ft_meq, ft_eqm, ft_meqm, ft_add, ft_mul, ft_sub, ft_nm, ft_m1p, ft_and, ft_or, ft_31, ft_shl, ft_shr, ft_bz, ft_z0, ft_z1, ft_z01, ft_bb, ft_zt, ft_zf, ft_or0, ft_rv, ft_rvr, ft_rf, ft_rfn, ft_bI, ft_bJ, ft_bV, ft_bR, ft_bRn, ft_isr, ft_isn, ft_ifn, ft_ifr, ft_ov, ft_ovn, ft_in, k_sI, n_sI, R_sI, J_sI, c_sI, z_sI, k_sJ, n_sJ, R_sJ, I_sJ, c_sJ, z_sJ, k_sR, n_sR, I_sR, J_sR, c_sR, z_sR, k_wI, n_wI, R_wI, J_wI, I_wIe, k_wJ, n_wJ, R_wJ, I_wJ, J_wJe, I_wIn, J_wJn, I_sIe, J_sJe, R_sRe, I_sIn, I_sIk, J_sJn, J_sJk, R_sRn, R_sRk, eq_self, if_true, if_false, ↓reduceIte, cond_true, cond_false, ↓cond_eq_ite, and_true, true_and, and_false, false_and, or_true, true_or, or_false, false_or, not_true_eq_false, not_false_eq_true, ft_ltT, ft_ltF, ft_eqT, ft_eqF, Bool.false_eq_true, Bool.true_eq_false, Bool.not_true, Bool.not_false, Bool.and_true, Bool.true_and, Bool.and_false, Bool.false_and, decide_true, decide_false, Nat.reduceAdd, Nat.reduceMul, Nat.reduceSub, Nat.reduceEqDiff, Nat.reduceLT, Nat.zero_add, Nat.add_zero, Nat.reduceDiv, Nat.reduceMod, ft_nb, oI, q, ft_div]
    · simp (disch := first | exact sR_rfl _ _ rfl | omega) only [q_F_neighbour, ft_lit, ft_m1, ft_m2, ft_m3, ft_m5, ft_m6, ft_cl, ft_lt, ft_le, ft_eq, ft_mlt, ft_ltm, ft_mltm, ft_meq, ft_eqm, ft_meqm, ft_add, ft_mul, ft_sub, ft_nm, ft_m1p, ft_and, ft_or, ft_31, ft_shl, ft_shr, ft_bz, ft_z0, ft_z1, ft_z01, ft_bb, ft_zt, ft_zf, ft_or0, ft_rv, ft_rvr, ft_rf, ft_rfn, ft_bI, ft_bJ, ft_bV, ft_bR, ft_bRn, ft_isr, ft_isn, ft_ifn, ft_ifr, ft_ov, ft_ovn, ft_in, k_sI, n_sI, R_sI, J_sI, c_sI, z_sI, k_sJ, n_sJ, R_sJ, I_sJ, c_sJ, z_sJ, k_sR, n_sR, I_sR, J_sR, c_sR, z_sR, k_wI, n_wI, R_wI, J_wI, I_wIe, k_wJ, n_wJ, R_wJ, I_wJ, J_wJe, I_wIn, J_wJn, I_sIe, J_sJe, R_sRe, I_sIn, I_sIk, J_sJn, J_sJk, R_sRn, R_sRk, eq_self, if_true, if_false, ↓reduceIte, cond_true, cond_false, ↓cond_eq_ite, and_true, true_and, and_false, false_and, or_true, true_or, or_false, false_or, not_true_eq_false, not_false_eq_true, ft_ltT, ft_ltF, ft_eqT, ft_eqF, Bool.false_eq_true, Bool.true_eq_false, Bool.not_true, Bool.not_false, Bool.and_true, Bool.true_and, Bool.and_false, Bool.false_and, decide_true, decide_false, Nat.reduceAdd, Nat.reduceMul, Nat.reduceSub, Nat.reduceEqDiff, Nat.reduceLT, Nat.zero_add, Nat.add_zero, Nat.reduceDiv, Nat.reduceMod, ft_nb, oI, q, ft_div]
  · by_cases q : 0 < c % 5
    · simp (disch := first | exact sR_rfl _ _ rfl | omega) only [q_F_neighbour, ft_nb, ft_div]
      rw [ft_mul, e5]
      simp (disch := first | exact sR_rfl _ _ rfl | omega) only [ft_lit, ft_m1, ft_m2, ft_m3, ft_m5, ft_m6, ft_cl, ft_lt, ft_le, ft_eq, ft_mlt, ft_ltm, ft_mltm, ft_meq, ft_eqm, ft_meqm, ft_add, ft_mul, ft_sub, ft_nm, ft_m1p, ft_and, ft_or, ft_31, ft_shl, ft_shr, ft_bz, ft_z0, ft_z1, ft_z01, ft_bb, ft_zt, ft_zf, ft_or0, ft_rv, ft_rvr, ft_rf, ft_rfn, ft_bI, ft_bJ, ft_bV, ft_bR, ft_bRn, ft_isr, ft_isn, ft_ifn, ft_ifr, ft_ov, ft_ovn, ft_in, k_sI, n_sI, R_sI, J_sI, c_sI, z_sI, k_sJ, n_sJ, R_sJ, I_sJ, c_sJ, z_sJ, k_sR, n_sR, I_sR, J_sR, c_sR, z_sR, k_wI, n_wI, R_wI, J_wI, I_wIe, k_wJ, n_wJ, R_wJ, I_wJ, J_wJe, I_wIn, J_wJn, I_sIe, J_sJe, R_sRe, I_sIn, I_sIk, J_sJn, J_sJk, R_sRn, R_sRk, eq_self, if_true, if_false, ↓reduceIte, cond_true, cond_false, ↓cond_eq_ite, and_true, true_and, and_false, false_and, or_true, true_or, or_false, false_or, not_true_eq_false, not_false_eq_true, ft_ltT, ft_ltF, ft_eqT, ft_eqF, Bool.false_eq_true, Bool.true_eq_false, Bool.not_true, Bool.not_false, Bool.and_true, Bool.true_and, Bool.and_false, Bool.false_and, decide_true, decide_false, Nat.reduceAdd, Nat.reduceMul, Nat.reduceSub, Nat.reduceEqDiff, Nat.reduceLT, Nat.zero_add, Nat.add_zero, Nat.reduceDiv, Nat.reduceMod, oI]
    · simp (disch := first | exact sR_rfl _ _ rfl | omega) only [q_F_neighbour, ft_nb, ft_div]
      rw [ft_mul, e5]
      simp (disch := first | exact sR_rfl _ _ rfl | omega) only [ft_lit, ft_m1, ft_m2, ft_m3, ft_m5, ft_m6, ft_cl, ft_lt, ft_le, ft_eq, ft_mlt, ft_ltm, ft_mltm, ft_meq, ft_eqm, ft_meqm, ft_add, ft_mul, ft_sub, ft_nm, ft_m1p, ft_and, ft_or, ft_31, ft_shl, ft_shr, ft_bz, ft_z0, ft_z1, ft_z01, ft_bb, ft_zt, ft_zf, ft_or0, ft_rv, ft_rvr, ft_rf, ft_rfn, ft_bI, ft_bJ, ft_bV, ft_bR, ft_bRn, ft_isr, ft_isn, ft_ifn, ft_ifr, ft_ov, ft_ovn, ft_in, k_sI, n_sI, R_sI, J_sI, c_sI, z_sI, k_sJ, n_sJ, R_sJ, I_sJ, c_sJ, z_sJ, k_sR, n_sR, I_sR, J_sR, c_sR, z_sR, k_wI, n_wI, R_wI, J_wI, I_wIe, k_wJ, n_wJ, R_wJ, I_wJ, J_wJe, I_wIn, J_wJn, I_sIe, J_sJe, R_sRe, I_sIn, I_sIk, J_sJn, J_sJk, R_sRn, R_sRk, eq_self, if_true, if_false, ↓reduceIte, cond_true, cond_false, ↓cond_eq_ite, and_true, true_and, and_false, false_and, or_true, true_or, or_false, false_or, not_true_eq_false, not_false_eq_true, ft_ltT, ft_ltF, ft_eqT, ft_eqF, Bool.false_eq_true, Bool.true_eq_false, Bool.not_true, Bool.not_false, Bool.and_true, Bool.true_and, Bool.and_false, Bool.false_and, decide_true, decide_false, Nat.reduceAdd, Nat.reduceMul, Nat.reduceSub, Nat.reduceEqDiff, Nat.reduceLT, Nat.zero_add, Nat.add_zero, Nat.reduceDiv, Nat.reduceMod, oI]
theorem C_nb_b {F : Nat × Nat} {h : jH} {c w : Nat} (hc : c < 25) (hw : w < 5) (ff : Int32 → jH → Option jO) : jbI (m_F_neighbour F (nI c) (nI w) h) ff = ff ((oI (ft_nb c w))) (h) := bI_of (C_nb (F := F) (h := h) (c := c) (w := w) (hc := hc) (hw := hw)) ff
theorem C_abs {F : Nat × Nat} {h : jH} {a b : Nat} (ha : a < 2147483648) (hb : b < 2147483648) : m_Jm_abs F (nI a - nI b) h = some (some (.int (nI ((a - b) + (b - a)))), h) := by
  rw [q_Jm_abs]
  by_cases q : a < b
  · rw [ft_sm q, if_pos (by rw [ft_mlt (by omega) (by omega)]; trivial), ft_nm]
    congr 5; omega
  · rw [ft_sub (by omega), if_neg (by rw [ft_lt (by omega) (by omega)]; omega)]
    congr 5; omega
theorem C_abs_b {F : Nat × Nat} {h : jH} {a b : Nat} (ha : a < 2147483648) (hb : b < 2147483648) (ff : Int32 → jH → Option jO) : jbI (m_Jm_abs F (nI a - nI b) h) ff = ff ((nI ((a - b) + (b - a)))) (h) := bI_of (C_abs (F := F) (h := h) (a := a) (b := b) (ha := ha) (hb := hb)) ff
def sgS (c far : Nat) : Nat → Bool := fun x => decide (ft_ds c x ≤ far)
theorem C_sight_4 {F : Nat × Nat} {h : jH} {c far : Nat} (hc : c < 25) (hf : far < 100) : ∀ d n f, n + d = 25 → d < f → m_F_cellsInSight_4 F f (nI c) (nI far) (nI (ft_bs (sgS c far) n)) (nI n) h = some (some (.int (nI (ft_bs (sgS c far) 25))), h)
  | 0, n, f + 1, e, _ => by
    have : n = 25 := by omega
    subst this
    rw [q_F_cellsInSight_4]
    simp (disch := first | exact sR_rfl _ _ rfl | omega) only [ft_lit, ft_m1, ft_m2, ft_m3, ft_m5, ft_m6, ft_cl, ft_lt, ft_le, ft_eq, ft_mlt, ft_ltm, ft_mltm, ft_meq, ft_eqm, ft_meqm, ft_add, ft_mul, ft_sub, ft_nm, ft_m1p, ft_and, ft_or, ft_31, ft_shl, ft_shr, ft_bz, ft_z0, ft_z1, ft_z01, ft_bb, ft_zt, ft_zf, ft_or0, ft_rv, ft_rvr, ft_rf, ft_rfn, ft_bI, ft_bJ, ft_bV, ft_bR, ft_bRn, ft_isr, ft_isn, ft_ifn, ft_ifr, ft_ov, ft_ovn, ft_in, k_sI, n_sI, R_sI, J_sI, c_sI, z_sI, k_sJ, n_sJ, R_sJ, I_sJ, c_sJ, z_sJ, k_sR, n_sR, I_sR, J_sR, c_sR, z_sR, k_wI, n_wI, R_wI, J_wI, I_wIe, k_wJ, n_wJ, R_wJ, I_wJ, J_wJe, I_wIn, J_wJn, I_sIe, J_sJe, R_sRe, I_sIn, I_sIk, J_sJn, J_sJk, R_sRn, R_sRk, eq_self, if_true, if_false, ↓reduceIte, cond_true, cond_false, ↓cond_eq_ite, and_true, true_and, and_false, false_and, or_true, true_or, or_false, false_or, not_true_eq_false, not_false_eq_true, ft_ltT, ft_ltF, ft_eqT, ft_eqF, Bool.false_eq_true, Bool.true_eq_false, Bool.not_true, Bool.not_false, Bool.and_true, Bool.true_and, Bool.and_false, Bool.false_and, decide_true, decide_false, Nat.reduceAdd, Nat.reduceMul, Nat.reduceSub, Nat.reduceEqDiff, Nat.reduceLT, Nat.zero_add, Nat.add_zero, Nat.reduceDiv, Nat.reduceMod]
  | d + 1, n, f + 1, e, hf1 => by
    have ih := C_sight_4 (F := F) (h := h) hc hf d (n + 1) f (by omega) (by omega)
    have a1 := bI_of (C_abs (F := F) (h := h) (a := n / 5) (b := c / 5) (by omega) (by omega))
    have a2 := bI_of (C_abs (F := F) (h := h) (a := n % 5) (b := c % 5) (by omega) (by omega))
    have e31 : n &&& 31 = n := ft_31 (by omega)
    rw [ft_bs_s _ n] at ih
    rw [q_F_cellsInSight_4, if_pos (by rw [ft_lt (by omega) (by omega)]; omega), ft_div (by omega) (by omega) (by omega), ft_div (by omega) (by omega) (by omega), a1, ft_mul, ft_mul, ft_rem2, ft_rem2, a2, ft_add]
    have dd : ((n / 5 - c / 5) + (c / 5 - n / 5) + ((n % 5 - c % 5) + (c % 5 - n % 5))) = ft_ds c n := by unfold ft_ds; omega
    rw [dd]
    have ub : ft_ds c n < 100 := by unfold ft_ds; omega
    by_cases q : ft_ds c n ≤ far
    · have s : sgS c far n = true := decide_eq_true q
      rw [s, if_pos rfl] at ih
      rw [if_neg (by rw [ft_lt (by omega) (by omega)]; omega), ← ih]
      simp (disch := first | exact sR_rfl _ _ rfl | omega) only [ft_lit, ft_m1, ft_m2, ft_m3, ft_m5, ft_m6, ft_cl, ft_lt, ft_le, ft_eq, ft_mlt, ft_ltm, ft_mltm, ft_meq, ft_eqm, ft_meqm, ft_add, ft_mul, ft_sub, ft_nm, ft_m1p, ft_and, ft_or, ft_31, ft_shl, ft_shr, ft_bz, ft_z0, ft_z1, ft_z01, ft_bb, ft_zt, ft_zf, ft_or0, ft_rv, ft_rvr, ft_rf, ft_rfn, ft_bI, ft_bJ, ft_bV, ft_bR, ft_bRn, ft_isr, ft_isn, ft_ifn, ft_ifr, ft_ov, ft_ovn, ft_in, k_sI, n_sI, R_sI, J_sI, c_sI, z_sI, k_sJ, n_sJ, R_sJ, I_sJ, c_sJ, z_sJ, k_sR, n_sR, I_sR, J_sR, c_sR, z_sR, k_wI, n_wI, R_wI, J_wI, I_wIe, k_wJ, n_wJ, R_wJ, I_wJ, J_wJe, I_wIn, J_wJn, I_sIe, J_sJe, R_sRe, I_sIn, I_sIk, J_sJn, J_sJk, R_sRn, R_sRk, eq_self, if_true, if_false, ↓reduceIte, cond_true, cond_false, ↓cond_eq_ite, and_true, true_and, and_false, false_and, or_true, true_or, or_false, false_or, not_true_eq_false, not_false_eq_true, ft_ltT, ft_ltF, ft_eqT, ft_eqF, Bool.false_eq_true, Bool.true_eq_false, Bool.not_true, Bool.not_false, Bool.and_true, Bool.true_and, Bool.and_false, Bool.false_and, decide_true, decide_false, Nat.reduceAdd, Nat.reduceMul, Nat.reduceSub, Nat.reduceEqDiff, Nat.reduceLT, Nat.zero_add, Nat.add_zero, Nat.reduceDiv, Nat.reduceMod, e31]
    · have s : sgS c far n = false := decide_eq_false q
      rw [s, if_neg (by decide), Nat.or_zero] at ih
      rw [if_pos (by rw [ft_lt (by omega) (by omega)]; omega), ← ih]
      simp (disch := first | exact sR_rfl _ _ rfl | omega) only [ft_lit, ft_m1, ft_m2, ft_m3, ft_m5, ft_m6, ft_cl, ft_lt, ft_le, ft_eq, ft_mlt, ft_ltm, ft_mltm, ft_meq, ft_eqm, ft_meqm, ft_add, ft_mul, ft_sub, ft_nm, ft_m1p, ft_and, ft_or, ft_31, ft_shl, ft_shr, ft_bz, ft_z0, ft_z1, ft_z01, ft_bb, ft_zt, ft_zf, ft_or0, ft_rv, ft_rvr, ft_rf, ft_rfn, ft_bI, ft_bJ, ft_bV, ft_bR, ft_bRn, ft_isr, ft_isn, ft_ifn, ft_ifr, ft_ov, ft_ovn, ft_in, k_sI, n_sI, R_sI, J_sI, c_sI, z_sI, k_sJ, n_sJ, R_sJ, I_sJ, c_sJ, z_sJ, k_sR, n_sR, I_sR, J_sR, c_sR, z_sR, k_wI, n_wI, R_wI, J_wI, I_wIe, k_wJ, n_wJ, R_wJ, I_wJ, J_wJe, I_wIn, J_wJn, I_sIe, J_sJe, R_sRe, I_sIn, I_sIk, J_sJn, J_sJk, R_sRn, R_sRk, eq_self, if_true, if_false, ↓reduceIte, cond_true, cond_false, ↓cond_eq_ite, and_true, true_and, and_false, false_and, or_true, true_or, or_false, false_or, not_true_eq_false, not_false_eq_true, ft_ltT, ft_ltF, ft_eqT, ft_eqF, Bool.false_eq_true, Bool.true_eq_false, Bool.not_true, Bool.not_false, Bool.and_true, Bool.true_and, Bool.and_false, Bool.false_and, decide_true, decide_false, Nat.reduceAdd, Nat.reduceMul, Nat.reduceSub, Nat.reduceEqDiff, Nat.reduceLT, Nat.zero_add, Nat.add_zero, Nat.reduceDiv, Nat.reduceMod, e31]
theorem C_sight {F : Nat × Nat} (hF : FF F) {h : jH} {c far : Nat} (hc : c < 25) (hf : far < 100) : m_F_cellsInSight F (nI c) (nI far) h = some (some (.int (nI (ft_bs (sgS c far) 25))), h) := C_sight_4 hc hf 25 0 F.1 rfl (by have := hF.1; omega)
theorem C_sight_b {F : Nat × Nat} (hF : FF F) {h : jH} {c far : Nat} (hc : c < 25) (hf : far < 100) (ff : Int32 → jH → Option jO) : jbI (m_F_cellsInSight F (nI c) (nI far) h) ff = ff ((nI (ft_bs (sgS c far) 25))) (h) := bI_of (C_sight (F := F) (hF := hF) (h := h) (c := c) (far := far) (hc := hc) (hf := hf)) ff
theorem kOK_e {k k' : Nat → Nat} (a : ∀ i, 181 ≤ i → k' i = k i) (j : Nat) : kT k' j = kT k j ∧ kC k' j = kC k j ∧ (kOK k' j ↔ kOK k j) := by
  have t : kT k' j = kT k j := by
    unfold kT
    rw [a (181 + j) (by omega)]
    congr 1 <;> (funext i; rw [a _ (by omega)])
  refine ⟨t, ?_, ?_⟩
  · unfold kC; rw [t, a (181 + j) (by omega)]
  · unfold kOK; rw [t, a (181 + j) (by omega)]
/-- the moved part alone has changed -/
theorem WK.mv {k k' : Nat → Nat} (W : WK k) (a : ∀ i, 105 ≤ i → k' i = k i) (h1 : ∀ w, w < 4 → k' w < 25) (h2 : ∀ i, i < 100 → k' (4 + i) ≤ 4) (h3 : k' 104 ≤ 999) : WK k' := by
  obtain ⟨w1, w2, w3, w4, w5, w6, w7, w8, w9, w10, w11, w12, w13, w14, w15, w16, w17⟩ := W
  refine ⟨fun i => ?_, h1, h2, h3, fun c hc => ?_, fun c hc => ?_, fun w hw => ?_, fun w hw => ?_, fun g hg => ?_, ?_, ?_, ?_, ?_, ?_, ?_, fun j hj => ?_, fun j hj => ?_⟩
  · by_cases c1 : i < 4
    · have := h1 i c1; omega
    · by_cases c2 : i < 104
      · have := h2 (i - 4) (by omega)
        have e : 4 + (i - 4) = i := by omega
        rw [e] at this; omega
      · by_cases c3 : i = 104
        · subst c3; omega
        · rw [a i (by omega)]; exact w1 i
  · rw [a _ (by omega)]; exact w5 c hc
  · rw [a _ (by omega)]; exact w6 c hc
  · rw [a _ (by omega)]; exact w7 w hw
  · rw [a _ (by omega)]; exact w8 w hw
  · rw [a _ (by omega)]; exact w9 g hg
  · rw [a _ (by omega)]; exact w10
  · rw [a _ (by omega)]; exact w11
  · rw [a _ (by omega)]; exact w12
  · rw [a _ (by omega)]; exact w13
  · rw [a _ (by omega)]; exact w14
  · rw [a _ (by omega), a _ (by omega)]; exact w15
  · rw [a _ (by omega)]; exact w16 j hj
  · rw [a _ (by omega)] at hj
    exact (kOK_e (fun i hi => a i (by omega)) j).2.2.mpr (w17 j hj)
/-- one more cell at a time: what is seen comes up on the sheet -/
def mkS (k : Nat → Nat) (w : Nat) (p : Nat → Bool) : Nat → (Nat → Nat)
  | 0 => k
  | n + 1 => if p n then va_up (mkS k w p n) (4 + 25 * w + n) (k (105 + n) + 1) else mkS k w p n
theorem va_n {k : Nat → Nat} {a x i : Nat} (h : i ≠ a) : va_up k a x i = k i := by unfold va_up; rw [if_neg h]
theorem va_e {k : Nat → Nat} {a x : Nat} : va_up k a x a = x := by unfold va_up; rw [if_pos rfl]
theorem mkS_ag (k : Nat → Nat) (w : Nat) (p : Nat → Bool) : ∀ n, n ≤ 25 → kAg w k (mkS k w p n)
  | 0, _ => fun _ _ => rfl
  | n + 1, h => fun i hi => by
    unfold mkS
    by_cases e : p n = true
    · rw [if_pos e, va_n (by omega)]; exact mkS_ag k w p n (by omega) i hi
    · rw [if_neg e]; exact mkS_ag k w p n (by omega) i hi
theorem mkS_le {k : Nat → Nat} (W : WK k) {w : Nat} (hw : w < 4) (p : Nat → Bool) : ∀ n, n ≤ 25 → ∀ i, i < 100 → mkS k w p n (4 + i) ≤ 4
  | 0, _, i, hi => W.2.2.1 i hi
  | n + 1, h, i, hi => by
    have b := W.kind (c := n) (by omega)
    unfold mkS
    by_cases e : p n = true
    · rw [if_pos e]
      by_cases e2 : 4 + i = 4 + 25 * w + n
      · rw [e2, va_e]; omega
      · rw [va_n e2]; exact mkS_le W hw p n (by omega) i hi
    · rw [if_neg e]; exact mkS_le W hw p n (by omega) i hi
theorem mkS_W {k : Nat → Nat} (W : WK k) {w : Nat} (hw : w < 4) (p : Nat → Bool) {n : Nat} (hn : n ≤ 25) : WK (mkS k w p n) := by
  have a := mkS_ag k w p n hn
  exact W.mv (fun i hi => a i (by omega)) (fun v hv => by rw [a v (by omega)]; exact W.spot hv) (mkS_le W hw p n hn) (by rw [a 104 (by omega)]; exact W.min)
theorem U_come_17 {F : Nat × Nat} {o : Nat} {k : Nat → Nat} (W : WK k) {w set : Nat} (hw : w < k 177) (hs : set < 33554432) : ∀ d n f h, n + d = 25 → d < f → LA h o → LI h o (mkS k w set.testBit n) → ∃ h', m_L_comeTo_17 F f o (nI w) (nI set) (nI n) h = some (none, h') ∧ jX (dS o w) jN h h' ∧ LI h' o (mkS k w set.testBit 25)
  | 0, n, f + 1, h, e, _, A, I => by
    have : n = 25 := by omega
    subst this
    refine ⟨h, ?_, jX.rf, I⟩
    rw [q_L_comeTo_17]
    simp (disch := first | exact sR_rfl _ _ rfl | omega) only [ft_lit, ft_m1, ft_m2, ft_m3, ft_m5, ft_m6, ft_cl, ft_lt, ft_le, ft_eq, ft_mlt, ft_ltm, ft_mltm, ft_meq, ft_eqm, ft_meqm, ft_add, ft_mul, ft_sub, ft_nm, ft_m1p, ft_and, ft_or, ft_31, ft_shl, ft_shr, ft_bz, ft_z0, ft_z1, ft_z01, ft_bb, ft_zt, ft_zf, ft_or0, ft_rv, ft_rvr, ft_rf, ft_rfn, ft_bI, ft_bJ, ft_bV, ft_bR, ft_bRn, ft_isr, ft_isn, ft_ifn, ft_ifr, ft_ov, ft_ovn, ft_in, k_sI, n_sI, R_sI, J_sI, c_sI, z_sI, k_sJ, n_sJ, R_sJ, I_sJ, c_sJ, z_sJ, k_sR, n_sR, I_sR, J_sR, c_sR, z_sR, k_wI, n_wI, R_wI, J_wI, I_wIe, k_wJ, n_wJ, R_wJ, I_wJ, J_wJe, I_wIn, J_wJn, I_sIe, J_sJe, R_sRe, I_sIn, I_sIk, J_sJn, J_sJk, R_sRn, R_sRk, eq_self, if_true, if_false, ↓reduceIte, cond_true, cond_false, ↓cond_eq_ite, and_true, true_and, and_false, false_and, or_true, true_or, or_false, false_or, not_true_eq_false, not_false_eq_true, ft_ltT, ft_ltF, ft_eqT, ft_eqF, Bool.false_eq_true, Bool.true_eq_false, Bool.not_true, Bool.not_false, Bool.and_true, Bool.true_and, Bool.and_false, Bool.false_and, decide_true, decide_false, Nat.reduceAdd, Nat.reduceMul, Nat.reduceSub, Nat.reduceEqDiff, Nat.reduceLT, Nat.zero_add, Nat.add_zero, Nat.reduceDiv, Nat.reduceMod]
  | d + 1, n, f + 1, h, e, hf, A, I => by
    have b := W.many
    have e31 : n &&& 31 = n := ft_31 (by omega)
    have ag := mkS_ag k w set.testBit n (by omega)
    have i1 := I.1 n (by omega)
    rw [ag (105 + n) (by omega)] at i1
    have kb := W.kind (c := n) (by omega)
    have e177 : mkS k w set.testBit n 177 = k 177 := ag 177 (by omega)
    cases q : set.testBit n with
    | true =>
      obtain ⟨h1, e1, x1, I1⟩ := U_mark (F := F) A I (mkS_W W (by omega) _ (by omega)) (w := w) (c := n) (v := k (105 + n)) (by omega) (by omega) (by omega)
      have z : mkS k w set.testBit (n + 1) = va_up (mkS k w set.testBit n) (4 + 25 * w + n) (k (105 + n) + 1) := by
        show (if set.testBit n then _ else _) = _
        rw [if_pos q]
      rw [← z] at I1
      obtain ⟨h', e2, x2, I2⟩ := U_come_17 (F := F) W hw hs d (n + 1) f h1 (by omega) (by omega) (A.fr x1 (fun _ n => n)) I1
      refine ⟨h', ?_, x1.t x2, I2⟩
      have m1 := bV_of e1
      rw [← e2, q_L_comeTo_17]
      simp (disch := first | exact sR_rfl _ _ rfl | omega) only [ft_lit, ft_m1, ft_m2, ft_m3, ft_m5, ft_m6, ft_cl, ft_lt, ft_le, ft_eq, ft_mlt, ft_ltm, ft_mltm, ft_meq, ft_eqm, ft_meqm, ft_add, ft_mul, ft_sub, ft_nm, ft_m1p, ft_and, ft_or, ft_31, ft_shl, ft_shr, ft_bz, ft_z0, ft_z1, ft_z01, ft_bb, ft_zt, ft_zf, ft_or0, ft_rv, ft_rvr, ft_rf, ft_rfn, ft_bI, ft_bJ, ft_bV, ft_bR, ft_bRn, ft_isr, ft_isn, ft_ifn, ft_ifr, ft_ov, ft_ovn, ft_in, k_sI, n_sI, R_sI, J_sI, c_sI, z_sI, k_sJ, n_sJ, R_sJ, I_sJ, c_sJ, z_sJ, k_sR, n_sR, I_sR, J_sR, c_sR, z_sR, k_wI, n_wI, R_wI, J_wI, I_wIe, k_wJ, n_wJ, R_wJ, I_wJ, J_wJe, I_wIn, J_wJn, I_sIe, J_sJe, R_sRe, I_sIn, I_sIk, J_sJn, J_sJk, R_sRn, R_sRk, eq_self, if_true, if_false, ↓reduceIte, cond_true, cond_false, ↓cond_eq_ite, and_true, true_and, and_false, false_and, or_true, true_or, or_false, false_or, not_true_eq_false, not_false_eq_true, ft_ltT, ft_ltF, ft_eqT, ft_eqF, Bool.false_eq_true, Bool.true_eq_false, Bool.not_true, Bool.not_false, Bool.and_true, Bool.true_and, Bool.and_false, Bool.false_and, decide_true, decide_false, Nat.reduceAdd, Nat.reduceMul, Nat.reduceSub, Nat.reduceEqDiff, Nat.reduceLT, Nat.zero_add, Nat.add_zero, Nat.reduceDiv, Nat.reduceMod, A.1, ↓la_v0 A, ↓la_v1 A, ↓la_v3 A, ↓la_v4 A, ↓la_v5 A, ↓la_v6 A, ↓la_v7 A, ↓la_v9 A, ↓la_v10 A, ↓la_v11 A, ↓la_v12 A, la_k1 A, la_n1 A, la_k2 A, la_n2 A, la_k3 A, la_n3 A, la_k4 A, la_n4 A, la_k5 A, la_n5 A, la_k6 A, la_n6 A, la_k7 A, la_n7 A, la_k8 A, la_n8 A, la_k9 A, la_n9 A, la_k10 A, la_n10 A, la_k11 A, la_n11 A, e31, q, i1]
      rw [m1]
    | false =>
      have z : mkS k w set.testBit (n + 1) = mkS k w set.testBit n := by
        show (if set.testBit n then _ else _) = _
        rw [if_neg (by rw [q]; decide)]
      rw [← z] at I
      obtain ⟨h', e2, x2, I2⟩ := U_come_17 (F := F) W hw hs d (n + 1) f h (by omega) (by omega) A I
      refine ⟨h', ?_, x2, I2⟩
      rw [← e2, q_L_comeTo_17]
      simp (disch := first | exact sR_rfl _ _ rfl | omega) only [ft_lit, ft_m1, ft_m2, ft_m3, ft_m5, ft_m6, ft_cl, ft_lt, ft_le, ft_eq, ft_mlt, ft_ltm, ft_mltm, ft_meq, ft_eqm, ft_meqm, ft_add, ft_mul, ft_sub, ft_nm, ft_m1p, ft_and, ft_or, ft_31, ft_shl, ft_shr, ft_bz, ft_z0, ft_z1, ft_z01, ft_bb, ft_zt, ft_zf, ft_or0, ft_rv, ft_rvr, ft_rf, ft_rfn, ft_bI, ft_bJ, ft_bV, ft_bR, ft_bRn, ft_isr, ft_isn, ft_ifn, ft_ifr, ft_ov, ft_ovn, ft_in, k_sI, n_sI, R_sI, J_sI, c_sI, z_sI, k_sJ, n_sJ, R_sJ, I_sJ, c_sJ, z_sJ, k_sR, n_sR, I_sR, J_sR, c_sR, z_sR, k_wI, n_wI, R_wI, J_wI, I_wIe, k_wJ, n_wJ, R_wJ, I_wJ, J_wJe, I_wIn, J_wJn, I_sIe, J_sJe, R_sRe, I_sIn, I_sIk, J_sJn, J_sJk, R_sRn, R_sRk, eq_self, if_true, if_false, ↓reduceIte, cond_true, cond_false, ↓cond_eq_ite, and_true, true_and, and_false, false_and, or_true, true_or, or_false, false_or, not_true_eq_false, not_false_eq_true, ft_ltT, ft_ltF, ft_eqT, ft_eqF, Bool.false_eq_true, Bool.true_eq_false, Bool.not_true, Bool.not_false, Bool.and_true, Bool.true_and, Bool.and_false, Bool.false_and, decide_true, decide_false, Nat.reduceAdd, Nat.reduceMul, Nat.reduceSub, Nat.reduceEqDiff, Nat.reduceLT, Nat.zero_add, Nat.add_zero, Nat.reduceDiv, Nat.reduceMod, e31, q]
theorem LI.spot {h : jH} {o w c : Nat} {k : Nat → Nat} (I : LI h o k) (hw : w < 4) : LI (j_sI h (o + 3) w (nI c)) o (va_up k w c) := by
  obtain ⟨i1, i2, i3, i4, i5, i6, i7, i8, i9, i10, i11⟩ := I
  have e : ∀ j i, j ≠ 3 → j_I (j_sI h (o + 3) w (nI c)) (o + j) i = j_I h (o + j) i := fun j i n => I_sIn (by omega)
  have e0 : ∀ i, j_I (j_sI h (o + 3) w (nI c)) o i = j_I h o i := fun i => e 0 i (by omega)
  have kk : ∀ i, 4 ≤ i → va_up k w c i = k i := fun i hi => va_n (by omega)
  have k1 : ∀ x, va_up k w c (105 + x) = k (105 + x) := fun x => kk _ (by omega)
  have k2 : ∀ x, va_up k w c (130 + x) = k (130 + x) := fun x => kk _ (by omega)
  have k3 : ∀ x, va_up k w c (155 + x) = k (155 + x) := fun x => kk _ (by omega)
  have k4 : ∀ x, va_up k w c (159 + x) = k (159 + x) := fun x => kk _ (by omega)
  have k5 : ∀ x, va_up k w c (163 + x) = k (163 + x) := fun x => kk _ (by omega)
  have k6 : ∀ x, va_up k w c (164 + x) = k (164 + x) := fun x => kk _ (by omega)
  have sh : ∀ v, ft_bs (ft_sh (va_up k w c) v) 25 = ft_bs (ft_sh k v) 25 := fun v => ft_bs_e _ (fun i _ => by unfold ft_sh; rw [kk _ (by omega)])
  have mr : ∀ v, mrk (va_up k w c) v = mrk k v := fun v => mrk_o (by omega)
  unfold LI
  simp only [e 1 _ (by omega), e 2 _ (by omega), e 4 _ (by omega), e 5 _ (by omega), e 6 _ (by omega), e 8 _ (by omega), e 9 _ (by omega), e 10 _ (by omega), e0, J_sI, k1, k2, k3, k4, k5, k6, kk 104 (by omega), kk 175 (by omega), kk 176 (by omega), kk 177 (by omega), kk 178 (by omega), kk 179 (by omega), kk 180 (by omega), sh, mr]
  refine ⟨i1, i2, i3, fun v hv => ⟨?_, (i4 v hv).2⟩, i5, i6, i7, i8, i9, i10, i11⟩
  by_cases q : v = w
  · subst q; rw [I_sIe, va_e]
  · rw [I_sIk q, va_n q]; exact (i4 v hv).1
def dC (o w : Nat) : Nat → Nat → Prop := fun a i => (a = o + 3 ∨ a = o + 6 ∨ a = o + 7) ∧ i = w
def stK (k : Nat → Nat) (w to : Nat) (p : Nat → Bool) : Nat → Nat := mkS (va_up k w to) w p 25
theorem WK.spt {k : Nat → Nat} (W : WK k) {w c : Nat} (hw : w < 4) (hc : c < 25) : WK (va_up k w c) := by
  refine W.mv (fun i hi => va_n (by omega)) (fun v hv => ?_) (fun i hi => by rw [va_n (by omega)]; exact W.2.2.1 i hi) (by rw [va_n (by omega)]; exact W.min)
  by_cases q : v = w
  · subst q; rw [va_e]; exact hc
  · rw [va_n q]; exact W.spot hv
theorem bs_tb {p : Nat → Bool} {n : Nat} (h : n < 25) : (ft_bs p 25).testBit n = p n := by rw [ft_bs_t, decide_eq_true h, Bool.true_and]
theorem mkS_e {k : Nat → Nat} {w : Nat} {p q : Nat → Bool} : ∀ n, (∀ i, i < n → p i = q i) → mkS k w p n = mkS k w q n
  | 0, _ => rfl
  | n + 1, h => by
    unfold mkS
    rw [mkS_e n (fun i hi => h i (by omega)), h n (by omega)]
theorem U_comeTo {F : Nat × Nat} (hF : FF F) {h : jH} {o : Nat} {k : Nat → Nat} (A : LA h o) (I : LI h o k) (W : WK k) {w to far : Nat} (hw : w < k 177) (ht : to < 25) (hf : far < 100) : ∃ h', m_L_comeTo F o (nI w) (nI to) (nI far) h = some (none, h') ∧ jX (dC o w) jN h h' ∧ LI h' o (stK k w to (sgS to far)) := by
  have b := W.many
  have A1 : LA (j_sI h (o + 3) w (nI to)) o := A.fr (jX.rf.sI (D := fun _ _ => True) (E := jN) True.intro) (fun _ n => n)
  have I1 := I.spot (w := w) (c := to) (by omega)
  have e177 : va_up k w to 177 = k 177 := va_n (by omega)
  have hF1 := hF.1
  obtain ⟨h', e1, x1, I2⟩ := U_come_17 (F := F) (W.spt (w := w) (c := to) (by omega) ht) (w := w) (set := ft_bs (sgS to far) 25) (by omega) (ft_bs_lt _ 25) 25 0 F.1 _ rfl (by omega) A1 I1
  have z : mkS (va_up k w to) w (ft_bs (sgS to far) 25).testBit 25 = stK k w to (sgS to far) := mkS_e 25 (fun i hi => bs_tb hi)
  rw [z] at I2
  have x0 : jX (dC o w) jN h (j_sI h (o + 3) w (nI to)) := jX.rf.sI (by unfold dC; omega)
  refine ⟨h', ?_, x0.t (x1.up (fun a i d => by unfold dS at d; unfold dC; omega) (fun _ _ n => n)), I2⟩
  have s1 := bI_of (C_sight (F := F) hF (h := j_sI h (o + 3) w (nI to)) ht hf)
  rw [← e1, q_L_comeTo]
  simp (disch := first | exact sR_rfl _ _ rfl | omega) only [ft_lit, ft_m1, ft_m2, ft_m3, ft_m5, ft_m6, ft_cl, ft_lt, ft_le, ft_eq, ft_mlt, ft_ltm, ft_mltm, ft_meq, ft_eqm, ft_meqm, ft_add, ft_mul, ft_sub, ft_nm, ft_m1p, ft_and, ft_or, ft_31, ft_shl, ft_shr, ft_bz, ft_z0, ft_z1, ft_z01, ft_bb, ft_zt, ft_zf, ft_or0, ft_rv, ft_rvr, ft_rf, ft_rfn, ft_bI, ft_bJ, ft_bV, ft_bR, ft_bRn, ft_isr, ft_isn, ft_ifn, ft_ifr, ft_ov, ft_ovn, ft_in, k_sI, n_sI, R_sI, J_sI, c_sI, z_sI, k_sJ, n_sJ, R_sJ, I_sJ, c_sJ, z_sJ, k_sR, n_sR, I_sR, J_sR, c_sR, z_sR, k_wI, n_wI, R_wI, J_wI, I_wIe, k_wJ, n_wJ, R_wJ, I_wJ, J_wJe, I_wIn, J_wJn, I_sIe, J_sJe, R_sRe, I_sIn, I_sIk, J_sJn, J_sJk, R_sRn, R_sRk, eq_self, if_true, if_false, ↓reduceIte, cond_true, cond_false, ↓cond_eq_ite, and_true, true_and, and_false, false_and, or_true, true_or, or_false, false_or, not_true_eq_false, not_false_eq_true, ft_ltT, ft_ltF, ft_eqT, ft_eqF, Bool.false_eq_true, Bool.true_eq_false, Bool.not_true, Bool.not_false, Bool.and_true, Bool.true_and, Bool.and_false, Bool.false_and, decide_true, decide_false, Nat.reduceAdd, Nat.reduceMul, Nat.reduceSub, Nat.reduceEqDiff, Nat.reduceLT, Nat.zero_add, Nat.add_zero, Nat.reduceDiv, Nat.reduceMod, A.1, ↓la_v0 A, ↓la_v1 A, ↓la_v3 A, ↓la_v4 A, ↓la_v5 A, ↓la_v6 A, ↓la_v7 A, ↓la_v9 A, ↓la_v10 A, ↓la_v11 A, ↓la_v12 A, la_k1 A, la_n1 A, la_k2 A, la_n2 A, la_k3 A, la_n3 A, la_k4 A, la_n4 A, la_k5 A, la_n5 A, la_k6 A, la_n6 A, la_k7 A, la_n7 A, la_k8 A, la_n8 A, la_k9 A, la_n9 A, la_k10 A, la_n10 A, la_k11 A, la_n11 A, ↓s1]
