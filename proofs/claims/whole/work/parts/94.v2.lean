/-! THE LAW ANSWERS 1 (written by gen9.py) -/
theorem scr_end {L j : Nat} (hL : L ≤ 3072) (hj : L < j + 6) (h2 : j ≤ 4000) : Int32.ofNat L - (6 : Int32) < nI j := by
  by_cases q : L < 6
  · have : ∀ L, L < 6 → Int32.ofNat L - (6 : Int32) = mI (5 - L) := by decide
    rw [this L q, ft_mlt (by omega) (by omega)]
    trivial
  · have e : Int32.ofNat L - (6 : Int32) = nI (L - 6) := show nI L - nI 6 = _ from by rw [ft_sub (by omega)]
    rw [e, ft_lt (by omega) (by omega)]
    omega
theorem scr_go {L j : Nat} (hL : L ≤ 3072) (hj : j + 6 ≤ L) : ¬ Int32.ofNat L - (6 : Int32) < nI j := by
  have e : Int32.ofNat L - (6 : Int32) = nI (L - 6) := show nI L - nI 6 = _ from by rw [ft_sub (by omega)]
  rw [e, ft_lt (by omega) (by omega)]
  omega
theorem law_loop {F : Nat × Nat} (hF : FF F) {L : Nat} {xs : Nat → Int32} (hL : L ≤ 3072) : ∀ d j f h s, L < j + 6 * d → j ≤ 3100 → d < f + 1 → 0 < d → WJ s → MJ h s → CJ h s → scr h L xs → ∃ h1, m_Q_law_18 F f 2 4 85 (nI j) h = some (some (.int 1), h1) ∧ j_c h1 ≤ j_c h + 12 * d ∧ j_z h1 ≤ j_z h + 700 * d
  | 0, j, f, h, s, hd, hj0, hf, h0, w, M, C, S => by omega
  | d + 1, j, f, h, s, hd, hj0, hf, h0, w, M, C, S => by
    obtain ⟨g, rfl⟩ : ∃ g, f = g + 1 := ⟨f - 1, by omega⟩
    have k7 : j_k h 2 < 7 := by rw [S.1]; omega
    show ∃ h1, (if j_k h 2 < 7 then (if (Int32.ofNat (j_n h 2)) - (6 : Int32) < nI j then (some (some (Value.int (1 : Int32)), h)) else _) else none) = some (some (Value.int 1), h1) ∧ _
    rw [if_pos k7]
    by_cases fin : L < j + 6
    · rw [if_pos (show Int32.ofNat (j_n h 2) - (6 : Int32) < nI j from by rw [S.2.1]; exact scr_end hL fin (by omega))]
      exact ⟨h, rfl, by omega, by omega⟩
    · rw [if_neg (show ¬ Int32.ofNat (j_n h 2) - (6 : Int32) < nI j from by rw [S.2.1]; exact scr_go hL (by omega))]
      have n6 : nI j + (6 : Int32) = nI (j + 6) := show nI j + nI 6 = _ from by simp (disch := first | exact sR_rfl _ _ rfl | omega) only [ft_lit, ft_m1, ft_m2, ft_m3, ft_m5, ft_m6, ft_cl, ft_lt, ft_le, ft_eq, ft_mlt, ft_ltm, ft_mltm, ft_meq, ft_eqm, ft_meqm, ft_add, ft_mul, ft_sub, ft_nm, ft_m1p, ft_and, ft_or, ft_31, ft_shl, ft_shr, ft_bz, ft_z0, ft_z1, ft_z01, ft_bb, ft_zt, ft_zf, ft_or0, ft_rv, ft_rvr, ft_rf, ft_rfn, ft_bI, ft_bJ, ft_bV, ft_bR, ft_bRn, ft_isr, ft_isn, ft_ifn, ft_ifr, ft_ov, ft_ovn, ft_in, k_sI, n_sI, R_sI, J_sI, c_sI, z_sI, k_sJ, n_sJ, R_sJ, I_sJ, c_sJ, z_sJ, k_sR, n_sR, I_sR, J_sR, c_sR, z_sR, k_wI, n_wI, R_wI, J_wI, I_wIe, k_wJ, n_wJ, R_wJ, I_wJ, J_wJe, I_wIn, J_wJn, I_sIe, J_sJe, R_sRe, I_sIn, I_sIk, J_sJn, J_sJk, R_sRn, R_sRk, eq_self, if_true, if_false, ↓reduceIte, cond_true, cond_false, ↓cond_eq_ite, and_true, true_and, and_false, false_and, or_true, true_or, or_false, false_or, not_true_eq_false, not_false_eq_true, ft_ltT, ft_ltF, ft_eqT, ft_eqF, Bool.false_eq_true, Bool.true_eq_false, Bool.not_true, Bool.not_false, Bool.and_true, Bool.true_and, Bool.and_false, Bool.false_and, decide_true, decide_false, Nat.reduceAdd, Nat.reduceMul, Nat.reduceSub, Nat.reduceEqDiff, Nat.reduceLT, Nat.zero_add, Nat.add_zero, Nat.reduceDiv, Nat.reduceMod]
      have next : ∀ h7 s', MJ h7 s' → CJ h7 s' → WJ s' → scr h7 L xs → j_c h7 ≤ j_c h + 12 → j_z h7 ≤ j_z h + 700 → ∃ h1, m_Q_law_18 F g 2 4 85 (nI j + (6 : Int32)) h7 = some (some (.int 1), h1) ∧ j_c h1 ≤ j_c h + 12 * (d + 1) ∧ j_z h1 ≤ j_z h + 700 * (d + 1) := fun h7 s' M7 C7 w7 S7 c7 z7 => by
        rw [n6]
        obtain ⟨h1, e1, c1, z1⟩ := law_loop hF hL d (j + 6) g h7 s' (by omega) (by omega) (by omega) (by omega) w7 M7 C7 S7
        exact ⟨h1, e1, by omega, by omega⟩
      rw [if_pos (show (j_k h 2 = 0 ∨ j_k h 2 = 6) ∧ j_in h 2 (nI j) from ⟨Or.inr S.1, by have := scr_in S (j := j) (by omega) hL 0 (by omega) (x := nI 0) rfl; rw [show nI j + nI 0 = nI j from by simp (disch := first | exact sR_rfl _ _ rfl | omega) only [ft_lit, ft_m1, ft_m2, ft_m3, ft_m5, ft_m6, ft_cl, ft_lt, ft_le, ft_eq, ft_mlt, ft_ltm, ft_mltm, ft_meq, ft_eqm, ft_meqm, ft_add, ft_mul, ft_sub, ft_nm, ft_m1p, ft_and, ft_or, ft_31, ft_shl, ft_shr, ft_bz, ft_z0, ft_z1, ft_z01, ft_bb, ft_zt, ft_zf, ft_or0, ft_rv, ft_rvr, ft_rf, ft_rfn, ft_bI, ft_bJ, ft_bV, ft_bR, ft_bRn, ft_isr, ft_isn, ft_ifn, ft_ifr, ft_ov, ft_ovn, ft_in, k_sI, n_sI, R_sI, J_sI, c_sI, z_sI, k_sJ, n_sJ, R_sJ, I_sJ, c_sJ, z_sJ, k_sR, n_sR, I_sR, J_sR, c_sR, z_sR, k_wI, n_wI, R_wI, J_wI, I_wIe, k_wJ, n_wJ, R_wJ, I_wJ, J_wJe, I_wIn, J_wJn, I_sIe, J_sJe, R_sRe, I_sIn, I_sIk, J_sJn, J_sJk, R_sRn, R_sRk, eq_self, if_true, if_false, ↓reduceIte, cond_true, cond_false, ↓cond_eq_ite, and_true, true_and, and_false, false_and, or_true, true_or, or_false, false_or, not_true_eq_false, not_false_eq_true, ft_ltT, ft_ltF, ft_eqT, ft_eqF, Bool.false_eq_true, Bool.true_eq_false, Bool.not_true, Bool.not_false, Bool.and_true, Bool.true_and, Bool.and_false, Bool.false_and, decide_true, decide_false, Nat.reduceAdd, Nat.reduceMul, Nat.reduceSub, Nat.reduceEqDiff, Nat.reduceLT, Nat.zero_add, Nat.add_zero, Nat.reduceDiv, Nat.reduceMod]] at this; exact this⟩)]
      by_cases q0 : (j_I h 2 (nI j).toNatClampNeg) &&& (63 : Int32) = (0 : Int32)
      · rw [if_pos q0]
        obtain ⟨h7, s', e7, M7, C7, w7, S7, c7, z7⟩ := lw_0 hF w M C S (j := j) (by omega) hL (m_Q_law_18 F g)
        obtain ⟨h1, e1, c1, z1⟩ := next h7 s' M7 C7 w7 S7 c7 z7
        exact ⟨h1, e7.trans e1, c1, z1⟩
      rw [if_neg q0]
      by_cases q1 : (j_I h 2 (nI j).toNatClampNeg) &&& (63 : Int32) = (1 : Int32)
      · rw [if_pos q1]
        obtain ⟨h7, s', e7, M7, C7, w7, S7, c7, z7⟩ := lw_1 hF w M C S (j := j) (by omega) hL (m_Q_law_18 F g)
        obtain ⟨h1, e1, c1, z1⟩ := next h7 s' M7 C7 w7 S7 c7 z7
        exact ⟨h1, e7.trans e1, c1, z1⟩
      rw [if_neg q1]
      by_cases q2 : (j_I h 2 (nI j).toNatClampNeg) &&& (63 : Int32) = (2 : Int32)
      · rw [if_pos q2]
        obtain ⟨h7, s', e7, M7, C7, w7, S7, c7, z7⟩ := lw_2 hF w M C S (j := j) (by omega) hL (m_Q_law_18 F g)
        obtain ⟨h1, e1, c1, z1⟩ := next h7 s' M7 C7 w7 S7 c7 z7
        exact ⟨h1, e7.trans e1, c1, z1⟩
      rw [if_neg q2]
      by_cases q3 : (j_I h 2 (nI j).toNatClampNeg) &&& (63 : Int32) = (3 : Int32)
      · rw [if_pos q3]
        obtain ⟨h7, s', e7, M7, C7, w7, S7, c7, z7⟩ := lw_3 hF w M C S (j := j) (by omega) hL (m_Q_law_18 F g)
        obtain ⟨h1, e1, c1, z1⟩ := next h7 s' M7 C7 w7 S7 c7 z7
        exact ⟨h1, e7.trans e1, c1, z1⟩
      rw [if_neg q3]
      by_cases q4 : (j_I h 2 (nI j).toNatClampNeg) &&& (63 : Int32) = (4 : Int32)
      · rw [if_pos q4]
        obtain ⟨h7, s', e7, M7, C7, w7, S7, c7, z7⟩ := lw_4 hF w M C S (j := j) (by omega) hL (m_Q_law_18 F g)
        obtain ⟨h1, e1, c1, z1⟩ := next h7 s' M7 C7 w7 S7 c7 z7
        exact ⟨h1, e7.trans e1, c1, z1⟩
      rw [if_neg q4]
      by_cases q5 : (j_I h 2 (nI j).toNatClampNeg) &&& (63 : Int32) = (5 : Int32)
      · rw [if_pos q5]
        obtain ⟨h7, s', e7, M7, C7, w7, S7, c7, z7⟩ := lw_5 hF w M C S (j := j) (by omega) hL (m_Q_law_18 F g)
        obtain ⟨h1, e1, c1, z1⟩ := next h7 s' M7 C7 w7 S7 c7 z7
        exact ⟨h1, e7.trans e1, c1, z1⟩
      rw [if_neg q5]
      by_cases q6 : (j_I h 2 (nI j).toNatClampNeg) &&& (63 : Int32) = (6 : Int32)
      · rw [if_pos q6]
        obtain ⟨h7, s', e7, M7, C7, w7, S7, c7, z7⟩ := lw_6 hF w M C S (j := j) (by omega) hL (m_Q_law_18 F g)
        obtain ⟨h1, e1, c1, z1⟩ := next h7 s' M7 C7 w7 S7 c7 z7
        exact ⟨h1, e7.trans e1, c1, z1⟩
      rw [if_neg q6]
      by_cases q7 : (j_I h 2 (nI j).toNatClampNeg) &&& (63 : Int32) = (7 : Int32)
      · rw [if_pos q7]
        obtain ⟨h7, s', e7, M7, C7, w7, S7, c7, z7⟩ := lw_7 hF w M C S (j := j) (by omega) hL (m_Q_law_18 F g)
        obtain ⟨h1, e1, c1, z1⟩ := next h7 s' M7 C7 w7 S7 c7 z7
        exact ⟨h1, e7.trans e1, c1, z1⟩
      rw [if_neg q7]
      by_cases q8 : (j_I h 2 (nI j).toNatClampNeg) &&& (63 : Int32) = (8 : Int32)
      · rw [if_pos q8]
        obtain ⟨h7, s', e7, M7, C7, w7, S7, c7, z7⟩ := lw_8 hF w M C S (j := j) (by omega) hL (m_Q_law_18 F g)
        obtain ⟨h1, e1, c1, z1⟩ := next h7 s' M7 C7 w7 S7 c7 z7
        exact ⟨h1, e7.trans e1, c1, z1⟩
      rw [if_neg q8]
      by_cases q9 : (j_I h 2 (nI j).toNatClampNeg) &&& (63 : Int32) = (9 : Int32)
      · rw [if_pos q9]
        obtain ⟨h7, s', e7, M7, C7, w7, S7, c7, z7⟩ := lw_9 hF w M C S (j := j) (by omega) hL (m_Q_law_18 F g)
        obtain ⟨h1, e1, c1, z1⟩ := next h7 s' M7 C7 w7 S7 c7 z7
        exact ⟨h1, e7.trans e1, c1, z1⟩
      rw [if_neg q9]
      by_cases q10 : (j_I h 2 (nI j).toNatClampNeg) &&& (63 : Int32) = (10 : Int32)
      · rw [if_pos q10]
        obtain ⟨h7, s', e7, M7, C7, w7, S7, c7, z7⟩ := lw_10 hF w M C S (j := j) (by omega) hL (m_Q_law_18 F g)
        obtain ⟨h1, e1, c1, z1⟩ := next h7 s' M7 C7 w7 S7 c7 z7
        exact ⟨h1, e7.trans e1, c1, z1⟩
      rw [if_neg q10]
      by_cases q11 : (j_I h 2 (nI j).toNatClampNeg) &&& (63 : Int32) = (11 : Int32)
      · rw [if_pos q11]
        obtain ⟨h7, s', e7, M7, C7, w7, S7, c7, z7⟩ := lw_11 hF w M C S (j := j) (by omega) hL (m_Q_law_18 F g)
        obtain ⟨h1, e1, c1, z1⟩ := next h7 s' M7 C7 w7 S7 c7 z7
        exact ⟨h1, e7.trans e1, c1, z1⟩
      rw [if_neg q11]
      by_cases q12 : (j_I h 2 (nI j).toNatClampNeg) &&& (63 : Int32) = (12 : Int32)
      · rw [if_pos q12]
        obtain ⟨h7, s', e7, M7, C7, w7, S7, c7, z7⟩ := lw_12 hF w M C S (j := j) (by omega) hL (m_Q_law_18 F g)
        obtain ⟨h1, e1, c1, z1⟩ := next h7 s' M7 C7 w7 S7 c7 z7
        exact ⟨h1, e7.trans e1, c1, z1⟩
      rw [if_neg q12]
      by_cases q13 : (j_I h 2 (nI j).toNatClampNeg) &&& (63 : Int32) = (13 : Int32)
      · rw [if_pos q13]
        obtain ⟨h7, s', e7, M7, C7, w7, S7, c7, z7⟩ := lw_13 hF w M C S (j := j) (by omega) hL (m_Q_law_18 F g)
        obtain ⟨h1, e1, c1, z1⟩ := next h7 s' M7 C7 w7 S7 c7 z7
        exact ⟨h1, e7.trans e1, c1, z1⟩
      rw [if_neg q13]
      by_cases q14 : (j_I h 2 (nI j).toNatClampNeg) &&& (63 : Int32) = (14 : Int32)
      · rw [if_pos q14]
        obtain ⟨h7, s', e7, M7, C7, w7, S7, c7, z7⟩ := lw_14 hF w M C S (j := j) (by omega) hL (m_Q_law_18 F g)
        obtain ⟨h1, e1, c1, z1⟩ := next h7 s' M7 C7 w7 S7 c7 z7
        exact ⟨h1, e7.trans e1, c1, z1⟩
      rw [if_neg q14]
      by_cases q15 : (j_I h 2 (nI j).toNatClampNeg) &&& (63 : Int32) = (15 : Int32)
      · rw [if_pos q15]
        obtain ⟨h7, s', e7, M7, C7, w7, S7, c7, z7⟩ := lw_15 hF w M C S (j := j) (by omega) hL (m_Q_law_18 F g)
        obtain ⟨h1, e1, c1, z1⟩ := next h7 s' M7 C7 w7 S7 c7 z7
        exact ⟨h1, e7.trans e1, c1, z1⟩
      rw [if_neg q15]
      by_cases q16 : (j_I h 2 (nI j).toNatClampNeg) &&& (63 : Int32) = (16 : Int32)
      · rw [if_pos q16]
        obtain ⟨h7, s', e7, M7, C7, w7, S7, c7, z7⟩ := lw_16 hF w M C S (j := j) (by omega) hL (m_Q_law_18 F g)
        obtain ⟨h1, e1, c1, z1⟩ := next h7 s' M7 C7 w7 S7 c7 z7
        exact ⟨h1, e7.trans e1, c1, z1⟩
      rw [if_neg q16]
      by_cases q17 : (j_I h 2 (nI j).toNatClampNeg) &&& (63 : Int32) = (17 : Int32)
      · rw [if_pos q17]
        obtain ⟨h7, s', e7, M7, C7, w7, S7, c7, z7⟩ := lw_17 hF w M C S (j := j) (by omega) hL (m_Q_law_18 F g)
        obtain ⟨h1, e1, c1, z1⟩ := next h7 s' M7 C7 w7 S7 c7 z7
        exact ⟨h1, e7.trans e1, c1, z1⟩
      rw [if_neg q17]
      by_cases q18 : (j_I h 2 (nI j).toNatClampNeg) &&& (63 : Int32) = (18 : Int32)
      · rw [if_pos q18]
        obtain ⟨h7, s', e7, M7, C7, w7, S7, c7, z7⟩ := lw_18 hF w M C S (j := j) (by omega) hL (m_Q_law_18 F g)
        obtain ⟨h1, e1, c1, z1⟩ := next h7 s' M7 C7 w7 S7 c7 z7
        exact ⟨h1, e7.trans e1, c1, z1⟩
      rw [if_neg q18]
      by_cases q19 : (j_I h 2 (nI j).toNatClampNeg) &&& (63 : Int32) = (19 : Int32)
      · rw [if_pos q19]
        obtain ⟨h7, s', e7, M7, C7, w7, S7, c7, z7⟩ := lw_19 hF w M C S (j := j) (by omega) hL (m_Q_law_18 F g)
        obtain ⟨h1, e1, c1, z1⟩ := next h7 s' M7 C7 w7 S7 c7 z7
        exact ⟨h1, e7.trans e1, c1, z1⟩
      rw [if_neg q19]
      by_cases q20 : (j_I h 2 (nI j).toNatClampNeg) &&& (63 : Int32) = (20 : Int32)
      · rw [if_pos q20]
        obtain ⟨h7, s', e7, M7, C7, w7, S7, c7, z7⟩ := lw_20 hF w M C S (j := j) (by omega) hL (m_Q_law_18 F g)
        obtain ⟨h1, e1, c1, z1⟩ := next h7 s' M7 C7 w7 S7 c7 z7
        exact ⟨h1, e7.trans e1, c1, z1⟩
      rw [if_neg q20]
      by_cases q21 : (j_I h 2 (nI j).toNatClampNeg) &&& (63 : Int32) = (21 : Int32)
      · rw [if_pos q21]
        obtain ⟨h7, s', e7, M7, C7, w7, S7, c7, z7⟩ := lw_21 hF w M C S (j := j) (by omega) hL (m_Q_law_18 F g)
        obtain ⟨h1, e1, c1, z1⟩ := next h7 s' M7 C7 w7 S7 c7 z7
        exact ⟨h1, e7.trans e1, c1, z1⟩
      rw [if_neg q21]
      by_cases q22 : (j_I h 2 (nI j).toNatClampNeg) &&& (63 : Int32) = (22 : Int32)
      · rw [if_pos q22]
        obtain ⟨h7, s', e7, M7, C7, w7, S7, c7, z7⟩ := lw_22 hF w M C S (j := j) (by omega) hL (m_Q_law_18 F g)
        obtain ⟨h1, e1, c1, z1⟩ := next h7 s' M7 C7 w7 S7 c7 z7
        exact ⟨h1, e7.trans e1, c1, z1⟩
      rw [if_neg q22]
      by_cases q23 : (j_I h 2 (nI j).toNatClampNeg) &&& (63 : Int32) = (23 : Int32)
      · rw [if_pos q23]
        obtain ⟨h7, s', e7, M7, C7, w7, S7, c7, z7⟩ := lw_23 hF w M C S (j := j) (by omega) hL (m_Q_law_18 F g)
        obtain ⟨h1, e1, c1, z1⟩ := next h7 s' M7 C7 w7 S7 c7 z7
        exact ⟨h1, e7.trans e1, c1, z1⟩
      rw [if_neg q23]
      by_cases q24 : (j_I h 2 (nI j).toNatClampNeg) &&& (63 : Int32) = (24 : Int32)
      · rw [if_pos q24]
        obtain ⟨h7, s', e7, M7, C7, w7, S7, c7, z7⟩ := lw_24 hF w M C S (j := j) (by omega) hL (m_Q_law_18 F g)
        obtain ⟨h1, e1, c1, z1⟩ := next h7 s' M7 C7 w7 S7 c7 z7
        exact ⟨h1, e7.trans e1, c1, z1⟩
      rw [if_neg q24]
      by_cases q25 : (j_I h 2 (nI j).toNatClampNeg) &&& (63 : Int32) = (25 : Int32)
      · rw [if_pos q25]
        obtain ⟨h7, s', e7, M7, C7, w7, S7, c7, z7⟩ := lw_25 hF w M C S (j := j) (by omega) hL (m_Q_law_18 F g)
        obtain ⟨h1, e1, c1, z1⟩ := next h7 s' M7 C7 w7 S7 c7 z7
        exact ⟨h1, e7.trans e1, c1, z1⟩
      rw [if_neg q25]
      by_cases q26 : (j_I h 2 (nI j).toNatClampNeg) &&& (63 : Int32) = (26 : Int32)
      · rw [if_pos q26]
        obtain ⟨h7, s', e7, M7, C7, w7, S7, c7, z7⟩ := lw_26 hF w M C S (j := j) (by omega) hL (m_Q_law_18 F g)
        obtain ⟨h1, e1, c1, z1⟩ := next h7 s' M7 C7 w7 S7 c7 z7
        exact ⟨h1, e7.trans e1, c1, z1⟩
      rw [if_neg q26]
      by_cases q27 : (j_I h 2 (nI j).toNatClampNeg) &&& (63 : Int32) = (27 : Int32)
      · rw [if_pos q27]
        obtain ⟨h7, s', e7, M7, C7, w7, S7, c7, z7⟩ := lw_27 hF w M C S (j := j) (by omega) hL (m_Q_law_18 F g)
        obtain ⟨h1, e1, c1, z1⟩ := next h7 s' M7 C7 w7 S7 c7 z7
        exact ⟨h1, e7.trans e1, c1, z1⟩
      rw [if_neg q27]
      by_cases q28 : (j_I h 2 (nI j).toNatClampNeg) &&& (63 : Int32) = (28 : Int32)
      · rw [if_pos q28]
        obtain ⟨h7, s', e7, M7, C7, w7, S7, c7, z7⟩ := lw_28 hF w M C S (j := j) (by omega) hL (m_Q_law_18 F g)
        obtain ⟨h1, e1, c1, z1⟩ := next h7 s' M7 C7 w7 S7 c7 z7
        exact ⟨h1, e7.trans e1, c1, z1⟩
      rw [if_neg q28]
      by_cases q29 : (j_I h 2 (nI j).toNatClampNeg) &&& (63 : Int32) = (29 : Int32)
      · rw [if_pos q29]
        obtain ⟨h7, s', e7, M7, C7, w7, S7, c7, z7⟩ := lw_29 hF w M C S (j := j) (by omega) hL (m_Q_law_18 F g)
        obtain ⟨h1, e1, c1, z1⟩ := next h7 s' M7 C7 w7 S7 c7 z7
        exact ⟨h1, e7.trans e1, c1, z1⟩
      rw [if_neg q29]
      by_cases q30 : (j_I h 2 (nI j).toNatClampNeg) &&& (63 : Int32) = (30 : Int32)
      · rw [if_pos q30]
        obtain ⟨h7, s', e7, M7, C7, w7, S7, c7, z7⟩ := lw_30 hF w M C S (j := j) (by omega) hL (m_Q_law_18 F g)
        obtain ⟨h1, e1, c1, z1⟩ := next h7 s' M7 C7 w7 S7 c7 z7
        exact ⟨h1, e7.trans e1, c1, z1⟩
      rw [if_neg q30]
      by_cases q31 : (j_I h 2 (nI j).toNatClampNeg) &&& (63 : Int32) = (31 : Int32)
      · rw [if_pos q31]
        obtain ⟨h7, s', e7, M7, C7, w7, S7, c7, z7⟩ := lw_31 hF w M C S (j := j) (by omega) hL (m_Q_law_18 F g)
        obtain ⟨h1, e1, c1, z1⟩ := next h7 s' M7 C7 w7 S7 c7 z7
        exact ⟨h1, e7.trans e1, c1, z1⟩
      rw [if_neg q31]
      by_cases q32 : (j_I h 2 (nI j).toNatClampNeg) &&& (63 : Int32) = (32 : Int32)
      · rw [if_pos q32]
        obtain ⟨h7, s', e7, M7, C7, w7, S7, c7, z7⟩ := lw_32 hF w M C S (j := j) (by omega) hL (m_Q_law_18 F g)
        obtain ⟨h1, e1, c1, z1⟩ := next h7 s' M7 C7 w7 S7 c7 z7
        exact ⟨h1, e7.trans e1, c1, z1⟩
      rw [if_neg q32]
      by_cases q33 : (j_I h 2 (nI j).toNatClampNeg) &&& (63 : Int32) = (33 : Int32)
      · rw [if_pos q33]
        obtain ⟨h7, s', e7, M7, C7, w7, S7, c7, z7⟩ := lw_33 hF w M C S (j := j) (by omega) hL (m_Q_law_18 F g)
        obtain ⟨h1, e1, c1, z1⟩ := next h7 s' M7 C7 w7 S7 c7 z7
        exact ⟨h1, e7.trans e1, c1, z1⟩
      rw [if_neg q33]
      by_cases q34 : (j_I h 2 (nI j).toNatClampNeg) &&& (63 : Int32) = (34 : Int32)
      · rw [if_pos q34]
        obtain ⟨h7, s', e7, M7, C7, w7, S7, c7, z7⟩ := lw_34 hF w M C S (j := j) (by omega) hL (m_Q_law_18 F g)
        obtain ⟨h1, e1, c1, z1⟩ := next h7 s' M7 C7 w7 S7 c7 z7
        exact ⟨h1, e7.trans e1, c1, z1⟩
      rw [if_neg q34]
      by_cases q35 : (j_I h 2 (nI j).toNatClampNeg) &&& (63 : Int32) = (35 : Int32)
      · rw [if_pos q35]
        obtain ⟨h7, s', e7, M7, C7, w7, S7, c7, z7⟩ := lw_35 hF w M C S (j := j) (by omega) hL (m_Q_law_18 F g)
        obtain ⟨h1, e1, c1, z1⟩ := next h7 s' M7 C7 w7 S7 c7 z7
        exact ⟨h1, e7.trans e1, c1, z1⟩
      rw [if_neg q35]
      by_cases q36 : (j_I h 2 (nI j).toNatClampNeg) &&& (63 : Int32) = (36 : Int32)
      · rw [if_pos q36]
        obtain ⟨h7, s', e7, M7, C7, w7, S7, c7, z7⟩ := lw_36 hF w M C S (j := j) (by omega) hL (m_Q_law_18 F g)
        obtain ⟨h1, e1, c1, z1⟩ := next h7 s' M7 C7 w7 S7 c7 z7
        exact ⟨h1, e7.trans e1, c1, z1⟩
      rw [if_neg q36]
      by_cases q37 : (j_I h 2 (nI j).toNatClampNeg) &&& (63 : Int32) = (37 : Int32)
      · rw [if_pos q37]
        obtain ⟨h7, s', e7, M7, C7, w7, S7, c7, z7⟩ := lw_37 hF w M C S (j := j) (by omega) hL (m_Q_law_18 F g)
        obtain ⟨h1, e1, c1, z1⟩ := next h7 s' M7 C7 w7 S7 c7 z7
        exact ⟨h1, e7.trans e1, c1, z1⟩
      rw [if_neg q37]
      by_cases q38 : (j_I h 2 (nI j).toNatClampNeg) &&& (63 : Int32) = (38 : Int32)
      · rw [if_pos q38]
        obtain ⟨h7, s', e7, M7, C7, w7, S7, c7, z7⟩ := lw_38 hF w M C S (j := j) (by omega) hL (m_Q_law_18 F g)
        obtain ⟨h1, e1, c1, z1⟩ := next h7 s' M7 C7 w7 S7 c7 z7
        exact ⟨h1, e7.trans e1, c1, z1⟩
      rw [if_neg q38]
      by_cases q39 : (j_I h 2 (nI j).toNatClampNeg) &&& (63 : Int32) = (39 : Int32)
      · rw [if_pos q39]
        obtain ⟨h7, s', e7, M7, C7, w7, S7, c7, z7⟩ := lw_39 hF w M C S (j := j) (by omega) hL (m_Q_law_18 F g)
        obtain ⟨h1, e1, c1, z1⟩ := next h7 s' M7 C7 w7 S7 c7 z7
        exact ⟨h1, e7.trans e1, c1, z1⟩
      rw [if_neg q39]
      by_cases q40 : (j_I h 2 (nI j).toNatClampNeg) &&& (63 : Int32) = (40 : Int32)
      · rw [if_pos q40]
        obtain ⟨h7, s', e7, M7, C7, w7, S7, c7, z7⟩ := lw_40 hF w M C S (j := j) (by omega) hL (m_Q_law_18 F g)
        obtain ⟨h1, e1, c1, z1⟩ := next h7 s' M7 C7 w7 S7 c7 z7
        exact ⟨h1, e7.trans e1, c1, z1⟩
      rw [if_neg q40]
      by_cases q41 : (j_I h 2 (nI j).toNatClampNeg) &&& (63 : Int32) = (41 : Int32)
      · rw [if_pos q41]
        obtain ⟨h7, s', e7, M7, C7, w7, S7, c7, z7⟩ := lw_41 hF w M C S (j := j) (by omega) hL (m_Q_law_18 F g)
        obtain ⟨h1, e1, c1, z1⟩ := next h7 s' M7 C7 w7 S7 c7 z7
        exact ⟨h1, e7.trans e1, c1, z1⟩
      rw [if_neg q41]
      obtain ⟨h1, e1, c1, z1⟩ := next h s M C w S (by omega) (by omega)
      exact ⟨h1, e1, c1, z1⟩
theorem law_F {F : Nat × Nat} (hF : FF F) (L : Nat) (xs : Nat → Int32) (hL : L ≤ 3072) : ∃ h1 : jH, m_Q_law F 2 (jh0 L xs) = some (some (.int 1), h1) ∧ j_c h1 - 4 ≤ 600000 ∧ j_z h1 ≤ 7302250 := by
  obtain ⟨h2, h, eF, cF, eM, M, C, c, z, k2, n2, i2⟩ := start_all (F := F) L xs
  obtain ⟨h1, e1, c1, z1⟩ := law_loop hF hL (xs := xs) 600 0 F.1 h s00 (by omega) (by omega) (by have := hF.1; omega) (by omega) WJ00 M C ⟨k2, n2, i2⟩
  refine ⟨h1, ?_, by omega, by omega⟩
  unfold m_Q_law
  show jbV (m_F_new F 4 (j_new (jh0 L xs) 10 16)) _ = _
  rw [bV_of eF]
  show jbV (m_M_new F (j_c h2) (j_new h2 17 52)) _ = _
  rw [cF, bV_of eM]
  exact e1
theorem law_1 (L : Nat) (xs : Nat → Int32) (hL : L ≤ 3072) : ∃ h1 : jH, m_Q_law (40000000, 50) 2 (jh0 L xs) = some (some (.int 1), h1) ∧ j_c h1 - 4 ≤ 600000 ∧ j_z h1 ≤ 7302250 := law_F ⟨Nat.le_refl _, Nat.le_refl _⟩ L xs hL
