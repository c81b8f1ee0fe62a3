/-! THE REFERENCE COUNTS FROM WHERE ONE STANDS -/
theorem M_gn0 {F : Nat × Nat} {h : jH} {c : Nat} (hc : c < 25) (k45 : Nat → Int32 → jH → Option jO) (f : Nat) (v : Int32) : m_M_laysGone_53 F k45 (f + 1) 85 v (nI (5 * c + 0)) h = m_M_laysGone_53 F k45 f 85 v (nI (5 * c + 1)) h := by
  have hd : nI (5 * c) / nI 5 = nI c := by rw [ft_div (by omega) (by omega) (by omega)]; exact congrArg nI (by omega)
  have hm : 5 * c - c * 5 = 0 := by omega
  rw [q_M_laysGone_53]
  simp (disch := first | exact sR_rfl _ _ rfl | omega) only [ft_lit, ft_m1, ft_m2, ft_m3, ft_m5, ft_m6, ft_cl, ft_lt, ft_le, ft_eq, ft_mlt, ft_ltm, ft_mltm, ft_meq, ft_eqm, ft_meqm, ft_add, ft_mul, ft_sub, ft_nm, ft_m1p, ft_and, ft_or, ft_31, ft_shl, ft_shr, ft_bz, ft_z0, ft_z1, ft_z01, ft_bb, ft_zt, ft_zf, ft_or0, ft_rv, ft_rvr, ft_rf, ft_rfn, ft_bI, ft_bJ, ft_bV, ft_bR, ft_bRn, ft_isr, ft_isn, ft_ifn, ft_ifr, ft_ov, ft_ovn, ft_in, k_sI, n_sI, R_sI, J_sI, c_sI, z_sI, k_sJ, n_sJ, R_sJ, I_sJ, c_sJ, z_sJ, k_sR, n_sR, I_sR, J_sR, c_sR, z_sR, k_wI, n_wI, R_wI, J_wI, I_wIe, k_wJ, n_wJ, R_wJ, I_wJ, J_wJe, I_wIn, J_wJn, I_sIe, J_sJe, R_sRe, I_sIn, I_sIk, J_sJn, J_sJk, R_sRn, R_sRk, eq_self, if_true, if_false, ↓reduceIte, cond_true, cond_false, ↓cond_eq_ite, and_true, true_and, and_false, false_and, or_true, true_or, or_false, false_or, not_true_eq_false, not_false_eq_true, ft_ltT, ft_ltF, ft_eqT, ft_eqF, Bool.false_eq_true, Bool.true_eq_false, Bool.not_true, Bool.not_false, Bool.and_true, Bool.true_and, Bool.and_false, Bool.false_and, decide_true, decide_false, Nat.reduceAdd, Nat.reduceMul, Nat.reduceSub, Nat.reduceEqDiff, Nat.reduceLT, Nat.zero_add, Nat.add_zero, Nat.reduceDiv, Nat.reduceMod, Nat.add_zero, hd, hm]
theorem M_gn1 {F : Nat × Nat} {h : jH} (S : ShM h) {pr : Nat → Nat → Nat} (P : SRn h pr 125) (pb : ∀ c y, pr c y ≤ 9) (pn : ∀ c y, ft_nb c y = none → pr c y = 0) {c y : Nat} (hc : c < 25) (h1 : 1 ≤ y) (h2 : y ≤ 4) {s : (Nat → Nat) × Bool} (R : RD h 102 s.1) (sb : ∀ a, a < 25 → s.1 a ≤ 1000000) (k45 : Nat → Int32 → jH → Option jO) (f : Nat) : ∃ h', m_M_laysGone_53 F k45 (f + 1) 85 (nI (ft_z s.2)) (nI (5 * c + y)) h = m_M_laysGone_53 F k45 f 85 (nI (ft_z (wst false pr c y s).2)) (nI (5 * c + (y + 1))) h' ∧ jX (dRo 102) jN h h' ∧ RD h' 102 (wst false pr c y s).1 := by
  obtain ⟨d, ch⟩ := s
  have ca := bI_of (M_cellAt (F := F) (h := h) (c := c) (w := y) hc (by omega))
  replace R : RD h 102 d := R
  replace sb : ∀ a, a < 25 → d a ≤ 1000000 := sb
  have rc := R c hc
  have bc := sb c hc
  have bp := pb c y
  have p0 := P c y hc h1 h2 (by omega)
  have hd : nI (5 * c + y) / nI 5 = nI c := by rw [ft_div (by omega) (by omega) (by omega)]; exact congrArg nI (by omega)
  have hm : 5 * c + y - c * 5 = y := by omega
  have ha : 5 * c + y + 1 = 5 * c + (y + 1) := by omega
  by_cases far : d c < 1000000
  · rcases Nat.eq_zero_or_pos (pr c y) with p | p
    · refine ⟨h, ?_, jX.rf, by rw [wst_00 p]; exact R⟩
      rw [p, prI_0] at p0
      rw [q_M_laysGone_53, wst_00 p]
      simp (disch := first | exact sR_rfl _ _ rfl | omega) only [ft_lit, ft_m1, ft_m2, ft_m3, ft_m5, ft_m6, ft_cl, ft_lt, ft_le, ft_eq, ft_mlt, ft_ltm, ft_mltm, ft_meq, ft_eqm, ft_meqm, ft_add, ft_mul, ft_sub, ft_nm, ft_m1p, ft_and, ft_or, ft_31, ft_shl, ft_shr, ft_bz, ft_z0, ft_z1, ft_z01, ft_bb, ft_zt, ft_zf, ft_or0, ft_rv, ft_rvr, ft_rf, ft_rfn, ft_bI, ft_bJ, ft_bV, ft_bR, ft_bRn, ft_isr, ft_isn, ft_ifn, ft_ifr, ft_ov, ft_ovn, ft_in, k_sI, n_sI, R_sI, J_sI, c_sI, z_sI, k_sJ, n_sJ, R_sJ, I_sJ, c_sJ, z_sJ, k_sR, n_sR, I_sR, J_sR, c_sR, z_sR, k_wI, n_wI, R_wI, J_wI, I_wIe, k_wJ, n_wJ, R_wJ, I_wJ, J_wJe, I_wIn, J_wJn, I_sIe, J_sJe, R_sRe, I_sIn, I_sIk, J_sJn, J_sJk, R_sRn, R_sRk, eq_self, if_true, if_false, ↓reduceIte, cond_true, cond_false, ↓cond_eq_ite, and_true, true_and, and_false, false_and, or_true, true_or, or_false, false_or, not_true_eq_false, not_false_eq_true, ft_ltT, ft_ltF, ft_eqT, ft_eqF, Bool.false_eq_true, Bool.true_eq_false, Bool.not_true, Bool.not_false, Bool.and_true, Bool.true_and, Bool.and_false, Bool.false_and, decide_true, decide_false, Nat.reduceAdd, Nat.reduceMul, Nat.reduceSub, Nat.reduceEqDiff, Nat.reduceLT, Nat.zero_add, Nat.add_zero, Nat.reduceDiv, Nat.reduceMod, sm_k85 S, sm_R85_1 S, ↓sm_v85_1 S, sm_R85_2 S, ↓sm_v85_2 S, sm_R85_3 S, ↓sm_v85_3 S, sm_R85_4 S, ↓sm_v85_4 S, sm_R85_5 S, ↓sm_v85_5 S, sm_R85_7 S, ↓sm_v85_7 S, sm_R85_11 S, ↓sm_v85_11 S, sm_R85_12 S, ↓sm_v85_12 S, sm_R85_15 S, ↓sm_v85_15 S, sm_R85_16 S, ↓sm_v85_16 S, sm_R85_17 S, ↓sm_v85_17 S, sm_R85_26 S, ↓sm_v85_26 S, sm_R85_29 S, ↓sm_v85_29 S, sm_R85_30 S, ↓sm_v85_30 S, sm_R85_32 S, ↓sm_v85_32 S, sm_R85_33 S, ↓sm_v85_33 S, sm_R85_34 S, ↓sm_v85_34 S, sm_R85_35 S, ↓sm_v85_35 S, sm_R85_36 S, ↓sm_v85_36 S, sm_R85_37 S, ↓sm_v85_37 S, sm_R85_38 S, ↓sm_v85_38 S, sm_R85_40 S, ↓sm_v85_40 S, sm_R85_41 S, ↓sm_v85_41 S, sm_R85_48 S, ↓sm_v85_48 S, sm_R85_49 S, ↓sm_v85_49 S, sm_k86 S, sm_n86 S, sm_k87 S, sm_n87 S, sm_k88 S, sm_n88 S, sm_k89 S, sm_n89 S, sm_k90 S, sm_n90 S, sm_k91 S, sm_n91 S, sm_k92 S, sm_n92 S, sm_k93 S, sm_n93 S, sm_k94 S, sm_n94 S, sm_k95 S, sm_n95 S, sm_k96 S, sm_n96 S, sm_k97 S, sm_n97 S, sm_k98 S, sm_n98 S, sm_k99 S, sm_n99 S, sm_k100 S, sm_n100 S, sm_k101 S, sm_n101 S, sm_k102 S, sm_n102 S, sm_k103 S, sm_n103 S, sm_k104 S, sm_n104 S, sm_k105 S, sm_n105 S, sm_k106 S, sm_n106 S, sm_k107 S, sm_n107 S, sm_k108 S, sm_n108 S, sm_k109 S, sm_n109 S, sm_k110 S, sm_n110 S, hd, hm, rc, p0, ha]
    · cases nb : ft_nb c y with
      | none => have := pn c y nb; omega
      | some t =>
        have ht := ft_nb_lt hc nb
        have eo : oI (some t) = nI t := rfl
        rw [nb, eo] at ca
        have rt := R t ht
        have bt := sb t ht
        rw [prI_1 p] at p0
        by_cases l : pr c y + d c < d t
        · have e := wst_1 (bw := false) (s := (d, ch)) nb p l
          simp only [Bool.false_eq_true, if_false] at e
          rw [e]
          refine ⟨j_sI h 102 t (nI (pr c y + d c)), ?_, jX.rf.sI rfl, R.up _ _⟩
          rw [q_M_laysGone_53]
          cases ch <;> simp (disch := first | exact sR_rfl _ _ rfl | omega) only [ft_lit, ft_m1, ft_m2, ft_m3, ft_m5, ft_m6, ft_cl, ft_lt, ft_le, ft_eq, ft_mlt, ft_ltm, ft_mltm, ft_meq, ft_eqm, ft_meqm, ft_add, ft_mul, ft_sub, ft_nm, ft_m1p, ft_and, ft_or, ft_31, ft_shl, ft_shr, ft_bz, ft_z0, ft_z1, ft_z01, ft_bb, ft_zt, ft_zf, ft_or0, ft_rv, ft_rvr, ft_rf, ft_rfn, ft_bI, ft_bJ, ft_bV, ft_bR, ft_bRn, ft_isr, ft_isn, ft_ifn, ft_ifr, ft_ov, ft_ovn, ft_in, k_sI, n_sI, R_sI, J_sI, c_sI, z_sI, k_sJ, n_sJ, R_sJ, I_sJ, c_sJ, z_sJ, k_sR, n_sR, I_sR, J_sR, c_sR, z_sR, k_wI, n_wI, R_wI, J_wI, I_wIe, k_wJ, n_wJ, R_wJ, I_wJ, J_wJe, I_wIn, J_wJn, I_sIe, J_sJe, R_sRe, I_sIn, I_sIk, J_sJn, J_sJk, R_sRn, R_sRk, eq_self, if_true, if_false, ↓reduceIte, cond_true, cond_false, ↓cond_eq_ite, and_true, true_and, and_false, false_and, or_true, true_or, or_false, false_or, not_true_eq_false, not_false_eq_true, ft_ltT, ft_ltF, ft_eqT, ft_eqF, Bool.false_eq_true, Bool.true_eq_false, Bool.not_true, Bool.not_false, Bool.and_true, Bool.true_and, Bool.and_false, Bool.false_and, decide_true, decide_false, Nat.reduceAdd, Nat.reduceMul, Nat.reduceSub, Nat.reduceEqDiff, Nat.reduceLT, Nat.zero_add, Nat.add_zero, Nat.reduceDiv, Nat.reduceMod, sm_k85 S, sm_R85_1 S, ↓sm_v85_1 S, sm_R85_2 S, ↓sm_v85_2 S, sm_R85_3 S, ↓sm_v85_3 S, sm_R85_4 S, ↓sm_v85_4 S, sm_R85_5 S, ↓sm_v85_5 S, sm_R85_7 S, ↓sm_v85_7 S, sm_R85_11 S, ↓sm_v85_11 S, sm_R85_12 S, ↓sm_v85_12 S, sm_R85_15 S, ↓sm_v85_15 S, sm_R85_16 S, ↓sm_v85_16 S, sm_R85_17 S, ↓sm_v85_17 S, sm_R85_26 S, ↓sm_v85_26 S, sm_R85_29 S, ↓sm_v85_29 S, sm_R85_30 S, ↓sm_v85_30 S, sm_R85_32 S, ↓sm_v85_32 S, sm_R85_33 S, ↓sm_v85_33 S, sm_R85_34 S, ↓sm_v85_34 S, sm_R85_35 S, ↓sm_v85_35 S, sm_R85_36 S, ↓sm_v85_36 S, sm_R85_37 S, ↓sm_v85_37 S, sm_R85_38 S, ↓sm_v85_38 S, sm_R85_40 S, ↓sm_v85_40 S, sm_R85_41 S, ↓sm_v85_41 S, sm_R85_48 S, ↓sm_v85_48 S, sm_R85_49 S, ↓sm_v85_49 S, sm_k86 S, sm_n86 S, sm_k87 S, sm_n87 S, sm_k88 S, sm_n88 S, sm_k89 S, sm_n89 S, sm_k90 S, sm_n90 S, sm_k91 S, sm_n91 S, sm_k92 S, sm_n92 S, sm_k93 S, sm_n93 S, sm_k94 S, sm_n94 S, sm_k95 S, sm_n95 S, sm_k96 S, sm_n96 S, sm_k97 S, sm_n97 S, sm_k98 S, sm_n98 S, sm_k99 S, sm_n99 S, sm_k100 S, sm_n100 S, sm_k101 S, sm_n101 S, sm_k102 S, sm_n102 S, sm_k103 S, sm_n103 S, sm_k104 S, sm_n104 S, sm_k105 S, sm_n105 S, sm_k106 S, sm_n106 S, sm_k107 S, sm_n107 S, sm_k108 S, sm_n108 S, sm_k109 S, sm_n109 S, sm_k110 S, sm_n110 S, hd, hm, ↓ca, p0, rt, rc, ha, Nat.add_comm (d c) (pr c y)]
        · have e := wst_2 (bw := false) (s := (d, ch)) nb p l
          rw [e]
          refine ⟨h, ?_, jX.rf, R⟩
          rw [q_M_laysGone_53]
          simp (disch := first | exact sR_rfl _ _ rfl | omega) only [ft_lit, ft_m1, ft_m2, ft_m3, ft_m5, ft_m6, ft_cl, ft_lt, ft_le, ft_eq, ft_mlt, ft_ltm, ft_mltm, ft_meq, ft_eqm, ft_meqm, ft_add, ft_mul, ft_sub, ft_nm, ft_m1p, ft_and, ft_or, ft_31, ft_shl, ft_shr, ft_bz, ft_z0, ft_z1, ft_z01, ft_bb, ft_zt, ft_zf, ft_or0, ft_rv, ft_rvr, ft_rf, ft_rfn, ft_bI, ft_bJ, ft_bV, ft_bR, ft_bRn, ft_isr, ft_isn, ft_ifn, ft_ifr, ft_ov, ft_ovn, ft_in, k_sI, n_sI, R_sI, J_sI, c_sI, z_sI, k_sJ, n_sJ, R_sJ, I_sJ, c_sJ, z_sJ, k_sR, n_sR, I_sR, J_sR, c_sR, z_sR, k_wI, n_wI, R_wI, J_wI, I_wIe, k_wJ, n_wJ, R_wJ, I_wJ, J_wJe, I_wIn, J_wJn, I_sIe, J_sJe, R_sRe, I_sIn, I_sIk, J_sJn, J_sJk, R_sRn, R_sRk, eq_self, if_true, if_false, ↓reduceIte, cond_true, cond_false, ↓cond_eq_ite, and_true, true_and, and_false, false_and, or_true, true_or, or_false, false_or, not_true_eq_false, not_false_eq_true, ft_ltT, ft_ltF, ft_eqT, ft_eqF, Bool.false_eq_true, Bool.true_eq_false, Bool.not_true, Bool.not_false, Bool.and_true, Bool.true_and, Bool.and_false, Bool.false_and, decide_true, decide_false, Nat.reduceAdd, Nat.reduceMul, Nat.reduceSub, Nat.reduceEqDiff, Nat.reduceLT, Nat.zero_add, Nat.add_zero, Nat.reduceDiv, Nat.reduceMod, sm_k85 S, sm_R85_1 S, ↓sm_v85_1 S, sm_R85_2 S, ↓sm_v85_2 S, sm_R85_3 S, ↓sm_v85_3 S, sm_R85_4 S, ↓sm_v85_4 S, sm_R85_5 S, ↓sm_v85_5 S, sm_R85_7 S, ↓sm_v85_7 S, sm_R85_11 S, ↓sm_v85_11 S, sm_R85_12 S, ↓sm_v85_12 S, sm_R85_15 S, ↓sm_v85_15 S, sm_R85_16 S, ↓sm_v85_16 S, sm_R85_17 S, ↓sm_v85_17 S, sm_R85_26 S, ↓sm_v85_26 S, sm_R85_29 S, ↓sm_v85_29 S, sm_R85_30 S, ↓sm_v85_30 S, sm_R85_32 S, ↓sm_v85_32 S, sm_R85_33 S, ↓sm_v85_33 S, sm_R85_34 S, ↓sm_v85_34 S, sm_R85_35 S, ↓sm_v85_35 S, sm_R85_36 S, ↓sm_v85_36 S, sm_R85_37 S, ↓sm_v85_37 S, sm_R85_38 S, ↓sm_v85_38 S, sm_R85_40 S, ↓sm_v85_40 S, sm_R85_41 S, ↓sm_v85_41 S, sm_R85_48 S, ↓sm_v85_48 S, sm_R85_49 S, ↓sm_v85_49 S, sm_k86 S, sm_n86 S, sm_k87 S, sm_n87 S, sm_k88 S, sm_n88 S, sm_k89 S, sm_n89 S, sm_k90 S, sm_n90 S, sm_k91 S, sm_n91 S, sm_k92 S, sm_n92 S, sm_k93 S, sm_n93 S, sm_k94 S, sm_n94 S, sm_k95 S, sm_n95 S, sm_k96 S, sm_n96 S, sm_k97 S, sm_n97 S, sm_k98 S, sm_n98 S, sm_k99 S, sm_n99 S, sm_k100 S, sm_n100 S, sm_k101 S, sm_n101 S, sm_k102 S, sm_n102 S, sm_k103 S, sm_n103 S, sm_k104 S, sm_n104 S, sm_k105 S, sm_n105 S, sm_k106 S, sm_n106 S, sm_k107 S, sm_n107 S, sm_k108 S, sm_n108 S, sm_k109 S, sm_n109 S, sm_k110 S, sm_n110 S, hd, hm, ↓ca, p0, rt, rc, ha, Nat.add_comm (d c) (pr c y)]
  · have e : wst false pr c y (d, ch) = (d, ch) := by
      rcases Nat.eq_zero_or_pos (pr c y) with p | p
      · exact wst_00 p
      · cases nb : ft_nb c y with
        | none => exact wst_n nb
        | some t =>
          have ht := ft_nb_lt hc nb
          have bt := sb t ht
          exact wst_2 (bw := false) (s := (d, ch)) nb p (fun l => by
            have l' : pr c y + d c < d t := l
            omega)
    rw [e]
    refine ⟨h, ?_, jX.rf, R⟩
    rw [q_M_laysGone_53]
    simp (disch := first | exact sR_rfl _ _ rfl | omega) only [ft_lit, ft_m1, ft_m2, ft_m3, ft_m5, ft_m6, ft_cl, ft_lt, ft_le, ft_eq, ft_mlt, ft_ltm, ft_mltm, ft_meq, ft_eqm, ft_meqm, ft_add, ft_mul, ft_sub, ft_nm, ft_m1p, ft_and, ft_or, ft_31, ft_shl, ft_shr, ft_bz, ft_z0, ft_z1, ft_z01, ft_bb, ft_zt, ft_zf, ft_or0, ft_rv, ft_rvr, ft_rf, ft_rfn, ft_bI, ft_bJ, ft_bV, ft_bR, ft_bRn, ft_isr, ft_isn, ft_ifn, ft_ifr, ft_ov, ft_ovn, ft_in, k_sI, n_sI, R_sI, J_sI, c_sI, z_sI, k_sJ, n_sJ, R_sJ, I_sJ, c_sJ, z_sJ, k_sR, n_sR, I_sR, J_sR, c_sR, z_sR, k_wI, n_wI, R_wI, J_wI, I_wIe, k_wJ, n_wJ, R_wJ, I_wJ, J_wJe, I_wIn, J_wJn, I_sIe, J_sJe, R_sRe, I_sIn, I_sIk, J_sJn, J_sJk, R_sRn, R_sRk, eq_self, if_true, if_false, ↓reduceIte, cond_true, cond_false, ↓cond_eq_ite, and_true, true_and, and_false, false_and, or_true, true_or, or_false, false_or, not_true_eq_false, not_false_eq_true, ft_ltT, ft_ltF, ft_eqT, ft_eqF, Bool.false_eq_true, Bool.true_eq_false, Bool.not_true, Bool.not_false, Bool.and_true, Bool.true_and, Bool.and_false, Bool.false_and, decide_true, decide_false, Nat.reduceAdd, Nat.reduceMul, Nat.reduceSub, Nat.reduceEqDiff, Nat.reduceLT, Nat.zero_add, Nat.add_zero, Nat.reduceDiv, Nat.reduceMod, sm_k85 S, sm_R85_1 S, ↓sm_v85_1 S, sm_R85_2 S, ↓sm_v85_2 S, sm_R85_3 S, ↓sm_v85_3 S, sm_R85_4 S, ↓sm_v85_4 S, sm_R85_5 S, ↓sm_v85_5 S, sm_R85_7 S, ↓sm_v85_7 S, sm_R85_11 S, ↓sm_v85_11 S, sm_R85_12 S, ↓sm_v85_12 S, sm_R85_15 S, ↓sm_v85_15 S, sm_R85_16 S, ↓sm_v85_16 S, sm_R85_17 S, ↓sm_v85_17 S, sm_R85_26 S, ↓sm_v85_26 S, sm_R85_29 S, ↓sm_v85_29 S, sm_R85_30 S, ↓sm_v85_30 S, sm_R85_32 S, ↓sm_v85_32 S, sm_R85_33 S, ↓sm_v85_33 S, sm_R85_34 S, ↓sm_v85_34 S, sm_R85_35 S, ↓sm_v85_35 S, sm_R85_36 S, ↓sm_v85_36 S, sm_R85_37 S, ↓sm_v85_37 S, sm_R85_38 S, ↓sm_v85_38 S, sm_R85_40 S, ↓sm_v85_40 S, sm_R85_41 S, ↓sm_v85_41 S, sm_R85_48 S, ↓sm_v85_48 S, sm_R85_49 S, ↓sm_v85_49 S, sm_k86 S, sm_n86 S, sm_k87 S, sm_n87 S, sm_k88 S, sm_n88 S, sm_k89 S, sm_n89 S, sm_k90 S, sm_n90 S, sm_k91 S, sm_n91 S, sm_k92 S, sm_n92 S, sm_k93 S, sm_n93 S, sm_k94 S, sm_n94 S, sm_k95 S, sm_n95 S, sm_k96 S, sm_n96 S, sm_k97 S, sm_n97 S, sm_k98 S, sm_n98 S, sm_k99 S, sm_n99 S, sm_k100 S, sm_n100 S, sm_k101 S, sm_n101 S, sm_k102 S, sm_n102 S, sm_k103 S, sm_n103 S, sm_k104 S, sm_n104 S, sm_k105 S, sm_n105 S, sm_k106 S, sm_n106 S, sm_k107 S, sm_n107 S, sm_k108 S, sm_n108 S, sm_k109 S, sm_n109 S, sm_k110 S, sm_n110 S, hd, hm, rc, ha]
theorem M_gn_y {F : Nat × Nat} {pr : Nat → Nat → Nat} (pb : ∀ c y, pr c y ≤ 9) (pn : ∀ c y, ft_nb c y = none → pr c y = 0) {c : Nat} (hc : c < 25) {s : (Nat → Nat) × Bool} (sb : ∀ a, a < 25 → s.1 a ≤ 1000000) (k45 : Nat → Int32 → jH → Option jO) (g : Nat) : ∀ r y h, y + r = 4 → ShM h → SRn h pr 125 → RD h 102 (wce false pr c y s).1 → ∃ h', m_M_laysGone_53 F k45 (g + r) 85 (nI (ft_z (wce false pr c y s).2)) (nI (5 * c + (y + 1))) h = m_M_laysGone_53 F k45 g 85 (nI (ft_z (wce false pr c 4 s).2)) (nI (5 * (c + 1))) h' ∧ jX (dRo 102) jN h h' ∧ RD h' 102 (wce false pr c 4 s).1
  | 0, y, h, e, S, P, R => by
    have : y = 4 := by omega
    subst this
    exact ⟨h, rfl, jX.rf, R⟩
  | r + 1, y, h, e, S, P, R => by
    have q := wce_Q (bw := false) (pr := pr) (z := fun _ => True) hc s y (by omega)
    obtain ⟨h1, e1, x1, R1⟩ := M_gn1 (F := F) S P pb pn hc (y := y + 1) (by omega) (by omega) R (fun a ha => Nat.le_trans (q.1 a) (sb a ha)) k45 (g + r)
    obtain ⟨h', e', x', R'⟩ := M_gn_y (F := F) pb pn hc sb k45 g r (y + 1) h1 (by omega) (S.fr x1 (fun _ _ z => z)) (P.fr x1 (fun i z => by unfold dRo at z; omega)) R1
    exact ⟨h', e1.trans e', (x1.tr x').up (fun a i d => d.elim id id) (fun a i d => d.elim id id), R'⟩
theorem M_gn_53 {F : Nat × Nat} {pr : Nat → Nat → Nat} (pb : ∀ c y, pr c y ≤ 9) (pn : ∀ c y, ft_nb c y = none → pr c y = 0) {s : (Nat → Nat) × Bool} (sb : ∀ a, a < 25 → s.1 a ≤ 1000000) (k45 : Nat → Int32 → jH → Option jO) : ∀ r c f h, c + r = 25 → 5 * r < f → ShM h → SRn h pr 125 → RD h 102 (wsw false pr c s).1 → ∃ h', m_M_laysGone_53 F k45 f 85 (nI (ft_z (wsw false pr c s).2)) (nI (5 * c)) h = k45 85 (nI (ft_z (wsw false pr 25 s).2)) h' ∧ jX (dRo 102) jN h h' ∧ RD h' 102 (wsw false pr 25 s).1
  | 0, c, f, h, e, hf, S, P, R => by
    obtain ⟨g, rfl⟩ : ∃ g, f = g + 1 := ⟨f - 1, by omega⟩
    have : c = 25 := by omega
    subst this
    refine ⟨h, ?_, jX.rf, R⟩
    rw [q_M_laysGone_53]
    simp (disch := first | exact sR_rfl _ _ rfl | omega) only [ft_lit, ft_m1, ft_m2, ft_m3, ft_m5, ft_m6, ft_cl, ft_lt, ft_le, ft_eq, ft_mlt, ft_ltm, ft_mltm, ft_meq, ft_eqm, ft_meqm, ft_add, ft_mul, ft_sub, ft_nm, ft_m1p, ft_and, ft_or, ft_31, ft_shl, ft_shr, ft_bz, ft_z0, ft_z1, ft_z01, ft_bb, ft_zt, ft_zf, ft_or0, ft_rv, ft_rvr, ft_rf, ft_rfn, ft_bI, ft_bJ, ft_bV, ft_bR, ft_bRn, ft_isr, ft_isn, ft_ifn, ft_ifr, ft_ov, ft_ovn, ft_in, k_sI, n_sI, R_sI, J_sI, c_sI, z_sI, k_sJ, n_sJ, R_sJ, I_sJ, c_sJ, z_sJ, k_sR, n_sR, I_sR, J_sR, c_sR, z_sR, k_wI, n_wI, R_wI, J_wI, I_wIe, k_wJ, n_wJ, R_wJ, I_wJ, J_wJe, I_wIn, J_wJn, I_sIe, J_sJe, R_sRe, I_sIn, I_sIk, J_sJn, J_sJk, R_sRn, R_sRk, eq_self, if_true, if_false, ↓reduceIte, cond_true, cond_false, ↓cond_eq_ite, and_true, true_and, and_false, false_and, or_true, true_or, or_false, false_or, not_true_eq_false, not_false_eq_true, ft_ltT, ft_ltF, ft_eqT, ft_eqF, Bool.false_eq_true, Bool.true_eq_false, Bool.not_true, Bool.not_false, Bool.and_true, Bool.true_and, Bool.and_false, Bool.false_and, decide_true, decide_false, Nat.reduceAdd, Nat.reduceMul, Nat.reduceSub, Nat.reduceEqDiff, Nat.reduceLT, Nat.zero_add, Nat.add_zero, Nat.reduceDiv, Nat.reduceMod]
  | r + 1, c, f, h, e, hf, S, P, R => by
    obtain ⟨g, rfl⟩ : ∃ g, f = g + 5 := ⟨f - 5, by omega⟩
    have q := wsw_Q (bw := false) (pr := pr) (z := fun _ => True) s c (by omega)
    have e0 := M_gn0 (F := F) (h := h) (c := c) (by omega) k45 (g + 4) (nI (ft_z (wsw false pr c s).2))
    obtain ⟨h1, e1, x1, R1⟩ := M_gn_y (F := F) pb pn (c := c) (by omega) (s := wsw false pr c s) (fun a ha => Nat.le_trans (q.1 a) (sb a ha)) k45 g 4 0 h rfl S P R
    obtain ⟨h', e', x', R'⟩ := M_gn_53 pb pn sb k45 r (c + 1) g h1 (by omega) (by omega) (S.fr x1 (fun _ _ z => z)) (P.fr x1 (fun i z => by unfold dRo at z; omega)) R1
    exact ⟨h', (e0.trans e1).trans e', (x1.tr x').up (fun a i d => d.elim id id) (fun a i d => d.elim id id), R'⟩
theorem M_gn_45 {F : Nat × Nat} (hF : FF F) {pr : Nat → Nat → Nat} (pb : ∀ c y, pr c y ≤ 9) (pn : ∀ c y, ft_nb c y = none → pr c y = 0) {g : Nat} {D : Nat → Nat} (hD : wD g false pr D) : ∀ r f h d ch, r + 1 < f → ShM h → SRn h pr 125 → RD h 102 d → wIn 25 (fun c => c = g) (wEg false pr) d → wUn d D (fun c => c) 25 ≤ r → (ch = false → ∀ c, c < 25 → d c = D c) → ∃ h', m_M_laysGone_45 F f 85 (nI (ft_z ch)) h = some (none, h') ∧ jX (dRo 102) jN h h' ∧ RD h' 102 D := by
  intro r
  induction r with
  | zero =>
    intro f h d ch hf S P R i u z
    obtain ⟨g1, rfl⟩ : ∃ g, f = g + 1 := ⟨f - 1, by omega⟩
    cases ch with
    | false =>
      refine ⟨h, ?_, jX.rf, fun a ha => by rw [R a ha]; exact congrArg nI (z rfl a ha)⟩
      rw [q_M_laysGone_45]
      exact if_pos rfl
    | true =>
      obtain ⟨g2, rfl⟩ : ∃ g, g1 = g + 1 := ⟨g1 - 1, by omega⟩
      obtain ⟨i', u', z', n'⟩ := wsw_1 hD i
      have n2 := n' (Nat.le_zero.mp u)
      obtain ⟨h1, e1, x1, R1⟩ := M_gn_53 pb pn (s := (d, false)) i.1 (m_M_laysGone_45 F (g2 + 1)) 25 0 F.1 h rfl (by have := hF.1; omega) S P R
      refine ⟨h1, ?_, x1, fun a ha => by rw [R1 a ha]; exact congrArg nI (z' n2 a ha)⟩
      rw [q_M_laysGone_45, if_neg (by decide)]
      refine e1.trans ?_
      rw [n2, q_M_laysGone_45]
      exact if_pos rfl
  | succ r ih =>
    intro f h d ch hf S P R i u z
    obtain ⟨g1, rfl⟩ : ∃ g, f = g + 1 := ⟨f - 1, by omega⟩
    cases ch with
    | false =>
      refine ⟨h, ?_, jX.rf, fun a ha => by rw [R a ha]; exact congrArg nI (z rfl a ha)⟩
      rw [q_M_laysGone_45]
      exact if_pos rfl
    | true =>
      obtain ⟨i', u', z', _⟩ := wsw_1 hD i
      obtain ⟨h1, e1, x1, R1⟩ := M_gn_53 pb pn (s := (d, false)) i.1 (m_M_laysGone_45 F g1) 25 0 F.1 h rfl (by have := hF.1; omega) S P R
      obtain ⟨h', e', x', R'⟩ := ih g1 h1 (wsw false pr 25 (d, false)).1 (wsw false pr 25 (d, false)).2 (by omega) (S.fr x1 (fun _ _ z => z)) (P.fr x1 (fun i z => by unfold dRo at z; omega)) R1 i' (by omega) z'
      refine ⟨h', ?_, (x1.tr x').up (fun a i d => d.elim id id) (fun a i d => d.elim id id), R'⟩
      rw [q_M_laysGone_45, if_neg (by decide)]
      exact e1.trans e'
theorem M_gn_10 {F : Nat × Nat} (hF : FF F) {k : Nat → Nat} {pr : Nat → Nat → Nat} (pb : ∀ c y, pr c y ≤ 9) (pn : ∀ c y, ft_nb c y = none → pr c y = 0) {w : Nat} (hw : w < 4) (hg : k w < 25) {D : Nat → Nat} (hD : wD (k w) false pr D) : ∀ r n f h, n + r = 25 → r < f → ShM h → KM h k → SRn h pr 125 → (∀ a, a < n → j_I h 102 a = nI (wd0 (k w) a)) → ∃ h', m_M_laysGone_10 F f 85 (nI w) (nI n) h = some (none, h') ∧ jX (dRo 102) jN h h' ∧ RD h' 102 D
  | 0, n, f, h, e, hf, S, K, P, R => by
    obtain ⟨g', rfl⟩ : ∃ g, f = g + 1 := ⟨f - 1, by omega⟩
    have : n = 25 := by omega
    subst this
    obtain ⟨h', e', x', R'⟩ := M_gn_45 hF pb pn hD 25 F.1 h (wd0 (k w)) true (by have := hF.1; omega) S P R wd0_in (wUn_le _ _ _ _) (fun z => nomatch z)
    refine ⟨h', ?_, x', R'⟩
    rw [q_M_laysGone_10, if_neg (by rw [ft_lt (by omega) (by omega)]; omega)]
    exact e'
  | r + 1, n, f, h, e, hf, S, K, P, R => by
    obtain ⟨g', rfl⟩ : ∃ g, f = g + 1 := ⟨f - 1, by omega⟩
    have x1 : jX (dRo 102) jN h (j_sI h 102 n (nI (wd0 (k w) n))) := jX.rf.sI rfl
    obtain ⟨h', e', x', R'⟩ := M_gn_10 hF pb pn hw hg hD r (n + 1) g' _ (by omega) (by omega) (S.fr x1 (fun _ _ z => z)) (K.fr x1 (fun a i z => by unfold dRo at z; omega)) (P.fr x1 (fun i z => by unfold dRo at z; omega)) (fun a ha => by
      by_cases q : a = n
      · rw [q, I_sIe]
      · rw [I_sIk q]; exact R a (by omega))
    refine ⟨h', ?_, (x1.tr x').up (fun a i d => d.elim id id) (fun a i d => d.elim id id), R'⟩
    rw [← e', q_M_laysGone_10]
    have sp := bI_of (M_spotOf (F := F) S K hw)
    by_cases q : n = k w
    · have w0 : wd0 (k w) n = 0 := if_pos q
      rw [w0]
      simp (disch := first | exact sR_rfl _ _ rfl | omega) only [ft_lit, ft_m1, ft_m2, ft_m3, ft_m5, ft_m6, ft_cl, ft_lt, ft_le, ft_eq, ft_mlt, ft_ltm, ft_mltm, ft_meq, ft_eqm, ft_meqm, ft_add, ft_mul, ft_sub, ft_nm, ft_m1p, ft_and, ft_or, ft_31, ft_shl, ft_shr, ft_bz, ft_z0, ft_z1, ft_z01, ft_bb, ft_zt, ft_zf, ft_or0, ft_rv, ft_rvr, ft_rf, ft_rfn, ft_bI, ft_bJ, ft_bV, ft_bR, ft_bRn, ft_isr, ft_isn, ft_ifn, ft_ifr, ft_ov, ft_ovn, ft_in, k_sI, n_sI, R_sI, J_sI, c_sI, z_sI, k_sJ, n_sJ, R_sJ, I_sJ, c_sJ, z_sJ, k_sR, n_sR, I_sR, J_sR, c_sR, z_sR, k_wI, n_wI, R_wI, J_wI, I_wIe, k_wJ, n_wJ, R_wJ, I_wJ, J_wJe, I_wIn, J_wJn, I_sIe, J_sJe, R_sRe, I_sIn, I_sIk, J_sJn, J_sJk, R_sRn, R_sRk, eq_self, if_true, if_false, ↓reduceIte, cond_true, cond_false, ↓cond_eq_ite, and_true, true_and, and_false, false_and, or_true, true_or, or_false, false_or, not_true_eq_false, not_false_eq_true, ft_ltT, ft_ltF, ft_eqT, ft_eqF, Bool.false_eq_true, Bool.true_eq_false, Bool.not_true, Bool.not_false, Bool.and_true, Bool.true_and, Bool.and_false, Bool.false_and, decide_true, decide_false, Nat.reduceAdd, Nat.reduceMul, Nat.reduceSub, Nat.reduceEqDiff, Nat.reduceLT, Nat.zero_add, Nat.add_zero, Nat.reduceDiv, Nat.reduceMod, sm_k85 S, sm_R85_1 S, ↓sm_v85_1 S, sm_R85_2 S, ↓sm_v85_2 S, sm_R85_3 S, ↓sm_v85_3 S, sm_R85_4 S, ↓sm_v85_4 S, sm_R85_5 S, ↓sm_v85_5 S, sm_R85_7 S, ↓sm_v85_7 S, sm_R85_11 S, ↓sm_v85_11 S, sm_R85_12 S, ↓sm_v85_12 S, sm_R85_15 S, ↓sm_v85_15 S, sm_R85_16 S, ↓sm_v85_16 S, sm_R85_17 S, ↓sm_v85_17 S, sm_R85_26 S, ↓sm_v85_26 S, sm_R85_29 S, ↓sm_v85_29 S, sm_R85_30 S, ↓sm_v85_30 S, sm_R85_32 S, ↓sm_v85_32 S, sm_R85_33 S, ↓sm_v85_33 S, sm_R85_34 S, ↓sm_v85_34 S, sm_R85_35 S, ↓sm_v85_35 S, sm_R85_36 S, ↓sm_v85_36 S, sm_R85_37 S, ↓sm_v85_37 S, sm_R85_38 S, ↓sm_v85_38 S, sm_R85_40 S, ↓sm_v85_40 S, sm_R85_41 S, ↓sm_v85_41 S, sm_R85_48 S, ↓sm_v85_48 S, sm_R85_49 S, ↓sm_v85_49 S, sm_k86 S, sm_n86 S, sm_k87 S, sm_n87 S, sm_k88 S, sm_n88 S, sm_k89 S, sm_n89 S, sm_k90 S, sm_n90 S, sm_k91 S, sm_n91 S, sm_k92 S, sm_n92 S, sm_k93 S, sm_n93 S, sm_k94 S, sm_n94 S, sm_k95 S, sm_n95 S, sm_k96 S, sm_n96 S, sm_k97 S, sm_n97 S, sm_k98 S, sm_n98 S, sm_k99 S, sm_n99 S, sm_k100 S, sm_n100 S, sm_k101 S, sm_n101 S, sm_k102 S, sm_n102 S, sm_k103 S, sm_n103 S, sm_k104 S, sm_n104 S, sm_k105 S, sm_n105 S, sm_k106 S, sm_n106 S, sm_k107 S, sm_n107 S, sm_k108 S, sm_n108 S, sm_k109 S, sm_n109 S, sm_k110 S, sm_n110 S, ↓sp]
    · have w0 : wd0 (k w) n = 1000000 := if_neg q
      rw [w0]
      simp (disch := first | exact sR_rfl _ _ rfl | omega) only [ft_lit, ft_m1, ft_m2, ft_m3, ft_m5, ft_m6, ft_cl, ft_lt, ft_le, ft_eq, ft_mlt, ft_ltm, ft_mltm, ft_meq, ft_eqm, ft_meqm, ft_add, ft_mul, ft_sub, ft_nm, ft_m1p, ft_and, ft_or, ft_31, ft_shl, ft_shr, ft_bz, ft_z0, ft_z1, ft_z01, ft_bb, ft_zt, ft_zf, ft_or0, ft_rv, ft_rvr, ft_rf, ft_rfn, ft_bI, ft_bJ, ft_bV, ft_bR, ft_bRn, ft_isr, ft_isn, ft_ifn, ft_ifr, ft_ov, ft_ovn, ft_in, k_sI, n_sI, R_sI, J_sI, c_sI, z_sI, k_sJ, n_sJ, R_sJ, I_sJ, c_sJ, z_sJ, k_sR, n_sR, I_sR, J_sR, c_sR, z_sR, k_wI, n_wI, R_wI, J_wI, I_wIe, k_wJ, n_wJ, R_wJ, I_wJ, J_wJe, I_wIn, J_wJn, I_sIe, J_sJe, R_sRe, I_sIn, I_sIk, J_sJn, J_sJk, R_sRn, R_sRk, eq_self, if_true, if_false, ↓reduceIte, cond_true, cond_false, ↓cond_eq_ite, and_true, true_and, and_false, false_and, or_true, true_or, or_false, false_or, not_true_eq_false, not_false_eq_true, ft_ltT, ft_ltF, ft_eqT, ft_eqF, Bool.false_eq_true, Bool.true_eq_false, Bool.not_true, Bool.not_false, Bool.and_true, Bool.true_and, Bool.and_false, Bool.false_and, decide_true, decide_false, Nat.reduceAdd, Nat.reduceMul, Nat.reduceSub, Nat.reduceEqDiff, Nat.reduceLT, Nat.zero_add, Nat.add_zero, Nat.reduceDiv, Nat.reduceMod, sm_k85 S, sm_R85_1 S, ↓sm_v85_1 S, sm_R85_2 S, ↓sm_v85_2 S, sm_R85_3 S, ↓sm_v85_3 S, sm_R85_4 S, ↓sm_v85_4 S, sm_R85_5 S, ↓sm_v85_5 S, sm_R85_7 S, ↓sm_v85_7 S, sm_R85_11 S, ↓sm_v85_11 S, sm_R85_12 S, ↓sm_v85_12 S, sm_R85_15 S, ↓sm_v85_15 S, sm_R85_16 S, ↓sm_v85_16 S, sm_R85_17 S, ↓sm_v85_17 S, sm_R85_26 S, ↓sm_v85_26 S, sm_R85_29 S, ↓sm_v85_29 S, sm_R85_30 S, ↓sm_v85_30 S, sm_R85_32 S, ↓sm_v85_32 S, sm_R85_33 S, ↓sm_v85_33 S, sm_R85_34 S, ↓sm_v85_34 S, sm_R85_35 S, ↓sm_v85_35 S, sm_R85_36 S, ↓sm_v85_36 S, sm_R85_37 S, ↓sm_v85_37 S, sm_R85_38 S, ↓sm_v85_38 S, sm_R85_40 S, ↓sm_v85_40 S, sm_R85_41 S, ↓sm_v85_41 S, sm_R85_48 S, ↓sm_v85_48 S, sm_R85_49 S, ↓sm_v85_49 S, sm_k86 S, sm_n86 S, sm_k87 S, sm_n87 S, sm_k88 S, sm_n88 S, sm_k89 S, sm_n89 S, sm_k90 S, sm_n90 S, sm_k91 S, sm_n91 S, sm_k92 S, sm_n92 S, sm_k93 S, sm_n93 S, sm_k94 S, sm_n94 S, sm_k95 S, sm_n95 S, sm_k96 S, sm_n96 S, sm_k97 S, sm_n97 S, sm_k98 S, sm_n98 S, sm_k99 S, sm_n99 S, sm_k100 S, sm_n100 S, sm_k101 S, sm_n101 S, sm_k102 S, sm_n102 S, sm_k103 S, sm_n103 S, sm_k104 S, sm_n104 S, sm_k105 S, sm_n105 S, sm_k106 S, sm_n106 S, sm_k107 S, sm_n107 S, sm_k108 S, sm_n108 S, sm_k109 S, sm_n109 S, sm_k110 S, sm_n110 S, ↓sp]
/-- what it takes from where w stands, over all cells -/
theorem M_gone {F : Nat × Nat} (hF : FF F) {h : jH} {k : Nat → Nat} (W : WK k) (C : WR h k) {w : Nat} (hw : w < k 177) (hg : k w < 25) {D : Nat → Nat} (hD : wD (k w) false (prW k (k 180) w 33554431) D) : ∃ h', m_M_laysGone F 85 (nI w) h = some (none, h') ∧ jX (fun a i => dSt a i ∨ a = 102) jN h h' ∧ SB h' ∧ RD h' 102 D := by
  have bm := W.many
  obtain ⟨h1, e1, x1, B1, P1⟩ := M_lstep hF W C hw (set := 33554431) (by omega)
  have C1 := C.st x1 B1
  obtain ⟨h', e', x', R'⟩ := M_gn_10 hF (fun c y => prW_le k (k 180) w 33554431 c y) (fun c y e => prW_n e) (w := w) (by omega) hg hD 25 0 F.1 h1 rfl (by have := hF.1; omega) C1.1 C1.2.1 P1 (fun a ha => by omega)
  refine ⟨h', ?_, (x1.tr x').up (fun a i d => d.elim Or.inl Or.inr) (fun a i d => d.elim id id), B1.fr x' (fun z => by unfold dRo at z; omega), R'⟩
  rw [q_M_laysGone, q_M_allCells]
  show (if j_k h 85 = 17 then _ else _) = _
  rw [if_pos (sm_k85 C.1), e1]
  exact e'
