/-! TOKENS: words, numbers -/
theorem M_w18 {F : Nat × Nat} (hF : FF F) {h : jH} (S : ShM h) (W : WM h) {tp : Nat → Nat} {fr to q : Nat} (hq : q < 27) (ht : to ≤ 400) (hf : fr ≤ to) (hb : ∀ i, fr ≤ i → i < to → j_I h 92 i = nI (tp i) ∧ tp i < 256) (k5 : Nat → Int32 → Int32 → Int32 → Int32 → jH → Option jO) : ∀ d i f, i + d = (mWs.getD q []).length → d < f → m_M_wordOf_18 F k5 f 85 (nI fr) (nI to) (nI (q + 1)) (nI (mSt.getD q 0)) (nI i) h = if mMt (tby tp fr to) q then some (some (.int (nI (q + 1))), h) else k5 85 (nI fr) (nI to) (nI (q + 1 + 1)) (nI (mSt.getD (q + 1) 0)) h
  | d, i, 0, e, hf => absurd hf (by omega)
  | 0, i, f + 1, e, _ => by
    have tb := m_tab q hq
    have hF1 := hF.1
    have hi : i = (mWs.getD q []).length := by omega
    subst hi
    have h1 := W (mSt.getD q 0 + (mWs.getD q []).length) (by omega)
    rw [tb.2.1] at h1
    by_cases w : to - fr = (mWs.getD q []).length
    · rw [← M_w57 (F := F) S W hq ht hf hb k5 w (mWs.getD q []).length 0 F.1 true (by omega) (by omega) ⟨fun _ x hx => absurd hx (by omega), fun _ => rfl⟩]
      simp (disch := first | exact sR_rfl _ _ rfl | omega) only [q_M_wordOf_18, ft_lit, ft_m1, ft_m2, ft_m3, ft_m5, ft_m6, ft_cl, ft_lt, ft_le, ft_eq, ft_mlt, ft_ltm, ft_mltm, ft_meq, ft_eqm, ft_meqm, ft_add, ft_mul, ft_sub, ft_nm, ft_m1p, ft_and, ft_or, ft_31, ft_shl, ft_shr, ft_bz, ft_z0, ft_z1, ft_z01, ft_bb, ft_zt, ft_zf, ft_or0, ft_rv, ft_rvr, ft_rf, ft_rfn, ft_bI, ft_bJ, ft_bV, ft_bR, ft_bRn, ft_isr, ft_isn, ft_ifn, ft_ifr, ft_ov, ft_ovn, ft_in, k_sI, n_sI, R_sI, J_sI, c_sI, z_sI, k_sJ, n_sJ, R_sJ, I_sJ, c_sJ, z_sJ, k_sR, n_sR, I_sR, J_sR, c_sR, z_sR, k_wI, n_wI, R_wI, J_wI, I_wIe, k_wJ, n_wJ, R_wJ, I_wJ, J_wJe, I_wIn, J_wJn, I_sIe, J_sJe, R_sRe, I_sIn, I_sIk, J_sJn, J_sJk, R_sRn, R_sRk, eq_self, if_true, if_false, ↓reduceIte, cond_true, cond_false, ↓cond_eq_ite, and_true, true_and, and_false, false_and, or_true, true_or, or_false, false_or, not_true_eq_false, not_false_eq_true, ft_ltT, ft_ltF, ft_eqT, ft_eqF, Bool.false_eq_true, Bool.true_eq_false, Bool.not_true, Bool.not_false, Bool.and_true, Bool.true_and, Bool.and_false, Bool.false_and, decide_true, decide_false, Nat.reduceAdd, Nat.reduceMul, Nat.reduceSub, Nat.reduceEqDiff, Nat.reduceLT, Nat.zero_add, Nat.add_zero, Nat.reduceDiv, Nat.reduceMod, sm_k85 S, sm_R85_1 S, ↓sm_v85_1 S, sm_R85_2 S, ↓sm_v85_2 S, sm_R85_3 S, ↓sm_v85_3 S, sm_R85_4 S, ↓sm_v85_4 S, sm_R85_5 S, ↓sm_v85_5 S, sm_R85_7 S, ↓sm_v85_7 S, sm_R85_11 S, ↓sm_v85_11 S, sm_R85_12 S, ↓sm_v85_12 S, sm_R85_15 S, ↓sm_v85_15 S, sm_R85_16 S, ↓sm_v85_16 S, sm_R85_17 S, ↓sm_v85_17 S, sm_R85_26 S, ↓sm_v85_26 S, sm_R85_29 S, ↓sm_v85_29 S, sm_R85_30 S, ↓sm_v85_30 S, sm_R85_32 S, ↓sm_v85_32 S, sm_R85_33 S, ↓sm_v85_33 S, sm_R85_34 S, ↓sm_v85_34 S, sm_R85_35 S, ↓sm_v85_35 S, sm_R85_36 S, ↓sm_v85_36 S, sm_R85_37 S, ↓sm_v85_37 S, sm_R85_38 S, ↓sm_v85_38 S, sm_R85_40 S, ↓sm_v85_40 S, sm_R85_41 S, ↓sm_v85_41 S, sm_R85_48 S, ↓sm_v85_48 S, sm_R85_49 S, ↓sm_v85_49 S, sm_k86 S, sm_n86 S, sm_k87 S, sm_n87 S, sm_k88 S, sm_n88 S, sm_k89 S, sm_n89 S, sm_k90 S, sm_n90 S, sm_k91 S, sm_n91 S, sm_k92 S, sm_n92 S, sm_k93 S, sm_n93 S, sm_k94 S, sm_n94 S, sm_k95 S, sm_n95 S, sm_k96 S, sm_n96 S, sm_k97 S, sm_n97 S, sm_k98 S, sm_n98 S, sm_k99 S, sm_n99 S, sm_k100 S, sm_n100 S, sm_k101 S, sm_n101 S, sm_k102 S, sm_n102 S, sm_k103 S, sm_n103 S, sm_k104 S, sm_n104 S, sm_k105 S, sm_n105 S, sm_k106 S, sm_n106 S, sm_k107 S, sm_n107 S, sm_k108 S, sm_n108 S, sm_k109 S, sm_n109 S, sm_k110 S, sm_n110 S, h1, w]
    · have hm : mMt (tby tp fr to) q = false := by
        cases hb : mMt (tby tp fr to) q with
        | false => rfl
        | true =>
          unfold mMt at hb
          rw [beq_iff_eq, tby_eq] at hb
          exact absurd hb.1 w
      rw [hm]
      have w' : ¬ (mWs.getD q []).length = to - fr := fun z => w z.symm
      obtain ⟨f2, hf2⟩ : ∃ f2, F.1 = f2 + 1 := ⟨F.1 - 1, by omega⟩
      simp (disch := first | exact sR_rfl _ _ rfl | omega) only [q_M_wordOf_18, ft_lit, ft_m1, ft_m2, ft_m3, ft_m5, ft_m6, ft_cl, ft_lt, ft_le, ft_eq, ft_mlt, ft_ltm, ft_mltm, ft_meq, ft_eqm, ft_meqm, ft_add, ft_mul, ft_sub, ft_nm, ft_m1p, ft_and, ft_or, ft_31, ft_shl, ft_shr, ft_bz, ft_z0, ft_z1, ft_z01, ft_bb, ft_zt, ft_zf, ft_or0, ft_rv, ft_rvr, ft_rf, ft_rfn, ft_bI, ft_bJ, ft_bV, ft_bR, ft_bRn, ft_isr, ft_isn, ft_ifn, ft_ifr, ft_ov, ft_ovn, ft_in, k_sI, n_sI, R_sI, J_sI, c_sI, z_sI, k_sJ, n_sJ, R_sJ, I_sJ, c_sJ, z_sJ, k_sR, n_sR, I_sR, J_sR, c_sR, z_sR, k_wI, n_wI, R_wI, J_wI, I_wIe, k_wJ, n_wJ, R_wJ, I_wJ, J_wJe, I_wIn, J_wJn, I_sIe, J_sJe, R_sRe, I_sIn, I_sIk, J_sJn, J_sJk, R_sRn, R_sRk, eq_self, if_true, if_false, ↓reduceIte, cond_true, cond_false, ↓cond_eq_ite, and_true, true_and, and_false, false_and, or_true, true_or, or_false, false_or, not_true_eq_false, not_false_eq_true, ft_ltT, ft_ltF, ft_eqT, ft_eqF, Bool.false_eq_true, Bool.true_eq_false, Bool.not_true, Bool.not_false, Bool.and_true, Bool.true_and, Bool.and_false, Bool.false_and, decide_true, decide_false, Nat.reduceAdd, Nat.reduceMul, Nat.reduceSub, Nat.reduceEqDiff, Nat.reduceLT, Nat.zero_add, Nat.add_zero, Nat.reduceDiv, Nat.reduceMod, sm_k85 S, sm_R85_1 S, ↓sm_v85_1 S, sm_R85_2 S, ↓sm_v85_2 S, sm_R85_3 S, ↓sm_v85_3 S, sm_R85_4 S, ↓sm_v85_4 S, sm_R85_5 S, ↓sm_v85_5 S, sm_R85_7 S, ↓sm_v85_7 S, sm_R85_11 S, ↓sm_v85_11 S, sm_R85_12 S, ↓sm_v85_12 S, sm_R85_15 S, ↓sm_v85_15 S, sm_R85_16 S, ↓sm_v85_16 S, sm_R85_17 S, ↓sm_v85_17 S, sm_R85_26 S, ↓sm_v85_26 S, sm_R85_29 S, ↓sm_v85_29 S, sm_R85_30 S, ↓sm_v85_30 S, sm_R85_32 S, ↓sm_v85_32 S, sm_R85_33 S, ↓sm_v85_33 S, sm_R85_34 S, ↓sm_v85_34 S, sm_R85_35 S, ↓sm_v85_35 S, sm_R85_36 S, ↓sm_v85_36 S, sm_R85_37 S, ↓sm_v85_37 S, sm_R85_38 S, ↓sm_v85_38 S, sm_R85_40 S, ↓sm_v85_40 S, sm_R85_41 S, ↓sm_v85_41 S, sm_R85_48 S, ↓sm_v85_48 S, sm_R85_49 S, ↓sm_v85_49 S, sm_k86 S, sm_n86 S, sm_k87 S, sm_n87 S, sm_k88 S, sm_n88 S, sm_k89 S, sm_n89 S, sm_k90 S, sm_n90 S, sm_k91 S, sm_n91 S, sm_k92 S, sm_n92 S, sm_k93 S, sm_n93 S, sm_k94 S, sm_n94 S, sm_k95 S, sm_n95 S, sm_k96 S, sm_n96 S, sm_k97 S, sm_n97 S, sm_k98 S, sm_n98 S, sm_k99 S, sm_n99 S, sm_k100 S, sm_n100 S, sm_k101 S, sm_n101 S, sm_k102 S, sm_n102 S, sm_k103 S, sm_n103 S, sm_k104 S, sm_n104 S, sm_k105 S, sm_n105 S, sm_k106 S, sm_n106 S, sm_k107 S, sm_n107 S, sm_k108 S, sm_n108 S, sm_k109 S, sm_n109 S, sm_k110 S, sm_n110 S, h1, w']
      rw [hf2, q_M_wordOf_57]
      by_cases z : 0 < (mWs.getD q []).length
      · simp (disch := first | exact sR_rfl _ _ rfl | omega) only [ft_lit, ft_m1, ft_m2, ft_m3, ft_m5, ft_m6, ft_cl, ft_lt, ft_le, ft_eq, ft_mlt, ft_ltm, ft_mltm, ft_meq, ft_eqm, ft_meqm, ft_add, ft_mul, ft_sub, ft_nm, ft_m1p, ft_and, ft_or, ft_31, ft_shl, ft_shr, ft_bz, ft_z0, ft_z1, ft_z01, ft_bb, ft_zt, ft_zf, ft_or0, ft_rv, ft_rvr, ft_rf, ft_rfn, ft_bI, ft_bJ, ft_bV, ft_bR, ft_bRn, ft_isr, ft_isn, ft_ifn, ft_ifr, ft_ov, ft_ovn, ft_in, k_sI, n_sI, R_sI, J_sI, c_sI, z_sI, k_sJ, n_sJ, R_sJ, I_sJ, c_sJ, z_sJ, k_sR, n_sR, I_sR, J_sR, c_sR, z_sR, k_wI, n_wI, R_wI, J_wI, I_wIe, k_wJ, n_wJ, R_wJ, I_wJ, J_wJe, I_wIn, J_wJn, I_sIe, J_sJe, R_sRe, I_sIn, I_sIk, J_sJn, J_sJk, R_sRn, R_sRk, eq_self, if_true, if_false, ↓reduceIte, cond_true, cond_false, ↓cond_eq_ite, and_true, true_and, and_false, false_and, or_true, true_or, or_false, false_or, not_true_eq_false, not_false_eq_true, ft_ltT, ft_ltF, ft_eqT, ft_eqF, Bool.false_eq_true, Bool.true_eq_false, Bool.not_true, Bool.not_false, Bool.and_true, Bool.true_and, Bool.and_false, Bool.false_and, decide_true, decide_false, Nat.reduceAdd, Nat.reduceMul, Nat.reduceSub, Nat.reduceEqDiff, Nat.reduceLT, Nat.zero_add, Nat.add_zero, Nat.reduceDiv, Nat.reduceMod]
        rw [tb.2.2.2.1]
      · simp (disch := first | exact sR_rfl _ _ rfl | omega) only [ft_lit, ft_m1, ft_m2, ft_m3, ft_m5, ft_m6, ft_cl, ft_lt, ft_le, ft_eq, ft_mlt, ft_ltm, ft_mltm, ft_meq, ft_eqm, ft_meqm, ft_add, ft_mul, ft_sub, ft_nm, ft_m1p, ft_and, ft_or, ft_31, ft_shl, ft_shr, ft_bz, ft_z0, ft_z1, ft_z01, ft_bb, ft_zt, ft_zf, ft_or0, ft_rv, ft_rvr, ft_rf, ft_rfn, ft_bI, ft_bJ, ft_bV, ft_bR, ft_bRn, ft_isr, ft_isn, ft_ifn, ft_ifr, ft_ov, ft_ovn, ft_in, k_sI, n_sI, R_sI, J_sI, c_sI, z_sI, k_sJ, n_sJ, R_sJ, I_sJ, c_sJ, z_sJ, k_sR, n_sR, I_sR, J_sR, c_sR, z_sR, k_wI, n_wI, R_wI, J_wI, I_wIe, k_wJ, n_wJ, R_wJ, I_wJ, J_wJe, I_wIn, J_wJn, I_sIe, J_sJe, R_sRe, I_sIn, I_sIk, J_sJn, J_sJk, R_sRn, R_sRk, eq_self, if_true, if_false, ↓reduceIte, cond_true, cond_false, ↓cond_eq_ite, and_true, true_and, and_false, false_and, or_true, true_or, or_false, false_or, not_true_eq_false, not_false_eq_true, ft_ltT, ft_ltF, ft_eqT, ft_eqF, Bool.false_eq_true, Bool.true_eq_false, Bool.not_true, Bool.not_false, Bool.and_true, Bool.true_and, Bool.and_false, Bool.false_and, decide_true, decide_false, Nat.reduceAdd, Nat.reduceMul, Nat.reduceSub, Nat.reduceEqDiff, Nat.reduceLT, Nat.zero_add, Nat.add_zero, Nat.reduceDiv, Nat.reduceMod]
        rw [tb.2.2.2.1]
  | d + 1, i, f + 1, e, hff => by
    have tb := m_tab q hq
    have ih := M_w18 hF S W hq ht hf hb k5 d (i + 1) f (by omega) (by omega)
    rw [← ih]
    have h1 := W (mSt.getD q 0 + i) (by omega)
    have h3 := tb.2.2.1 i (by omega)
    have h4 := m_by (mSt.getD q 0 + i) (by omega)
    rw [h3.1] at h1 h4
    have h5 := h3.2
    simp (disch := first | exact sR_rfl _ _ rfl | omega) only [q_M_wordOf_18, ft_lit, ft_m1, ft_m2, ft_m3, ft_m5, ft_m6, ft_cl, ft_lt, ft_le, ft_eq, ft_mlt, ft_ltm, ft_mltm, ft_meq, ft_eqm, ft_meqm, ft_add, ft_mul, ft_sub, ft_nm, ft_m1p, ft_and, ft_or, ft_31, ft_shl, ft_shr, ft_bz, ft_z0, ft_z1, ft_z01, ft_bb, ft_zt, ft_zf, ft_or0, ft_rv, ft_rvr, ft_rf, ft_rfn, ft_bI, ft_bJ, ft_bV, ft_bR, ft_bRn, ft_isr, ft_isn, ft_ifn, ft_ifr, ft_ov, ft_ovn, ft_in, k_sI, n_sI, R_sI, J_sI, c_sI, z_sI, k_sJ, n_sJ, R_sJ, I_sJ, c_sJ, z_sJ, k_sR, n_sR, I_sR, J_sR, c_sR, z_sR, k_wI, n_wI, R_wI, J_wI, I_wIe, k_wJ, n_wJ, R_wJ, I_wJ, J_wJe, I_wIn, J_wJn, I_sIe, J_sJe, R_sRe, I_sIn, I_sIk, J_sJn, J_sJk, R_sRn, R_sRk, eq_self, if_true, if_false, ↓reduceIte, cond_true, cond_false, ↓cond_eq_ite, and_true, true_and, and_false, false_and, or_true, true_or, or_false, false_or, not_true_eq_false, not_false_eq_true, ft_ltT, ft_ltF, ft_eqT, ft_eqF, Bool.false_eq_true, Bool.true_eq_false, Bool.not_true, Bool.not_false, Bool.and_true, Bool.true_and, Bool.and_false, Bool.false_and, decide_true, decide_false, Nat.reduceAdd, Nat.reduceMul, Nat.reduceSub, Nat.reduceEqDiff, Nat.reduceLT, Nat.zero_add, Nat.add_zero, Nat.reduceDiv, Nat.reduceMod, sm_k85 S, sm_R85_1 S, ↓sm_v85_1 S, sm_R85_2 S, ↓sm_v85_2 S, sm_R85_3 S, ↓sm_v85_3 S, sm_R85_4 S, ↓sm_v85_4 S, sm_R85_5 S, ↓sm_v85_5 S, sm_R85_7 S, ↓sm_v85_7 S, sm_R85_11 S, ↓sm_v85_11 S, sm_R85_12 S, ↓sm_v85_12 S, sm_R85_15 S, ↓sm_v85_15 S, sm_R85_16 S, ↓sm_v85_16 S, sm_R85_17 S, ↓sm_v85_17 S, sm_R85_26 S, ↓sm_v85_26 S, sm_R85_29 S, ↓sm_v85_29 S, sm_R85_30 S, ↓sm_v85_30 S, sm_R85_32 S, ↓sm_v85_32 S, sm_R85_33 S, ↓sm_v85_33 S, sm_R85_34 S, ↓sm_v85_34 S, sm_R85_35 S, ↓sm_v85_35 S, sm_R85_36 S, ↓sm_v85_36 S, sm_R85_37 S, ↓sm_v85_37 S, sm_R85_38 S, ↓sm_v85_38 S, sm_R85_40 S, ↓sm_v85_40 S, sm_R85_41 S, ↓sm_v85_41 S, sm_R85_48 S, ↓sm_v85_48 S, sm_R85_49 S, ↓sm_v85_49 S, sm_k86 S, sm_n86 S, sm_k87 S, sm_n87 S, sm_k88 S, sm_n88 S, sm_k89 S, sm_n89 S, sm_k90 S, sm_n90 S, sm_k91 S, sm_n91 S, sm_k92 S, sm_n92 S, sm_k93 S, sm_n93 S, sm_k94 S, sm_n94 S, sm_k95 S, sm_n95 S, sm_k96 S, sm_n96 S, sm_k97 S, sm_n97 S, sm_k98 S, sm_n98 S, sm_k99 S, sm_n99 S, sm_k100 S, sm_n100 S, sm_k101 S, sm_n101 S, sm_k102 S, sm_n102 S, sm_k103 S, sm_n103 S, sm_k104 S, sm_n104 S, sm_k105 S, sm_n105 S, sm_k106 S, sm_n106 S, sm_k107 S, sm_n107 S, sm_k108 S, sm_n108 S, sm_k109 S, sm_n109 S, sm_k110 S, sm_n110 S, h1, h5]
theorem m_st27 : mSt.getD 27 0 = 137 := by decide
theorem M_w5 {F : Nat × Nat} (hF : FF F) {h : jH} (S : ShM h) (W : WM h) {tp : Nat → Nat} {fr to : Nat} (ht : to ≤ 400) (hf : fr ≤ to) (hb : ∀ i, fr ≤ i → i < to → j_I h 92 i = nI (tp i) ∧ tp i < 256) : ∀ d q f, q + d = 27 → d < f → m_M_wordOf_5 F f 85 (nI fr) (nI to) (nI (q + 1)) (nI (mSt.getD q 0)) h = some (some (.int (nI (if wsr (mMt (tby tp fr to)) d q < 27 then wsr (mMt (tby tp fr to)) d q + 1 else 0))), h)
  | d, q, 0, e, hf => absurd hf (by omega)
  | 0, q, f + 1, e, _ => by
    have hq : q = 27 := by omega
    subst hq
    have e5 : Int32.ofNat 137 = nI 137 := rfl
    simp (disch := first | exact sR_rfl _ _ rfl | omega) only [q_M_wordOf_5, m_st27, ft_lit, ft_m1, ft_m2, ft_m3, ft_m5, ft_m6, ft_cl, ft_lt, ft_le, ft_eq, ft_mlt, ft_ltm, ft_mltm, ft_meq, ft_eqm, ft_meqm, ft_add, ft_mul, ft_sub, ft_nm, ft_m1p, ft_and, ft_or, ft_31, ft_shl, ft_shr, ft_bz, ft_z0, ft_z1, ft_z01, ft_bb, ft_zt, ft_zf, ft_or0, ft_rv, ft_rvr, ft_rf, ft_rfn, ft_bI, ft_bJ, ft_bV, ft_bR, ft_bRn, ft_isr, ft_isn, ft_ifn, ft_ifr, ft_ov, ft_ovn, ft_in, k_sI, n_sI, R_sI, J_sI, c_sI, z_sI, k_sJ, n_sJ, R_sJ, I_sJ, c_sJ, z_sJ, k_sR, n_sR, I_sR, J_sR, c_sR, z_sR, k_wI, n_wI, R_wI, J_wI, I_wIe, k_wJ, n_wJ, R_wJ, I_wJ, J_wJe, I_wIn, J_wJn, I_sIe, J_sJe, R_sRe, I_sIn, I_sIk, J_sJn, J_sJk, R_sRn, R_sRk, eq_self, if_true, if_false, ↓reduceIte, cond_true, cond_false, ↓cond_eq_ite, and_true, true_and, and_false, false_and, or_true, true_or, or_false, false_or, not_true_eq_false, not_false_eq_true, ft_ltT, ft_ltF, ft_eqT, ft_eqF, Bool.false_eq_true, Bool.true_eq_false, Bool.not_true, Bool.not_false, Bool.and_true, Bool.true_and, Bool.and_false, Bool.false_and, decide_true, decide_false, Nat.reduceAdd, Nat.reduceMul, Nat.reduceSub, Nat.reduceEqDiff, Nat.reduceLT, Nat.zero_add, Nat.add_zero, Nat.reduceDiv, Nat.reduceMod, e5, sm_k85 S, sm_R85_1 S, ↓sm_v85_1 S, sm_R85_2 S, ↓sm_v85_2 S, sm_R85_3 S, ↓sm_v85_3 S, sm_R85_4 S, ↓sm_v85_4 S, sm_R85_5 S, ↓sm_v85_5 S, sm_R85_7 S, ↓sm_v85_7 S, sm_R85_11 S, ↓sm_v85_11 S, sm_R85_12 S, ↓sm_v85_12 S, sm_R85_15 S, ↓sm_v85_15 S, sm_R85_16 S, ↓sm_v85_16 S, sm_R85_17 S, ↓sm_v85_17 S, sm_R85_26 S, ↓sm_v85_26 S, sm_R85_29 S, ↓sm_v85_29 S, sm_R85_30 S, ↓sm_v85_30 S, sm_R85_32 S, ↓sm_v85_32 S, sm_R85_33 S, ↓sm_v85_33 S, sm_R85_34 S, ↓sm_v85_34 S, sm_R85_35 S, ↓sm_v85_35 S, sm_R85_36 S, ↓sm_v85_36 S, sm_R85_37 S, ↓sm_v85_37 S, sm_R85_38 S, ↓sm_v85_38 S, sm_R85_40 S, ↓sm_v85_40 S, sm_R85_41 S, ↓sm_v85_41 S, sm_R85_48 S, ↓sm_v85_48 S, sm_R85_49 S, ↓sm_v85_49 S, sm_k86 S, sm_n86 S, sm_k87 S, sm_n87 S, sm_k88 S, sm_n88 S, sm_k89 S, sm_n89 S, sm_k90 S, sm_n90 S, sm_k91 S, sm_n91 S, sm_k92 S, sm_n92 S, sm_k93 S, sm_n93 S, sm_k94 S, sm_n94 S, sm_k95 S, sm_n95 S, sm_k96 S, sm_n96 S, sm_k97 S, sm_n97 S, sm_k98 S, sm_n98 S, sm_k99 S, sm_n99 S, sm_k100 S, sm_n100 S, sm_k101 S, sm_n101 S, sm_k102 S, sm_n102 S, sm_k103 S, sm_n103 S, sm_k104 S, sm_n104 S, sm_k105 S, sm_n105 S, sm_k106 S, sm_n106 S, sm_k107 S, sm_n107 S, sm_k108 S, sm_n108 S, sm_k109 S, sm_n109 S, sm_k110 S, sm_n110 S, wsr]
  | d + 1, q, f + 1, e, hff => by
    have hF1 := hF.1
    have tb := m_tab q (by omega)
    have e5 : Int32.ofNat 137 = nI 137 := rfl
    have w18 := M_w18 hF S W (q := q) (by omega) ht hf hb (m_M_wordOf_5 F f) (mWs.getD q []).length 0 F.1 (by omega) (by omega)
    have ih := M_w5 hF S W ht hf hb d (q + 1) f (by omega) (by omega)
    have e1 : m_M_wordOf_5 F (f + 1) 85 (nI fr) (nI to) (nI (q + 1)) (nI (mSt.getD q 0)) h = m_M_wordOf_18 F (m_M_wordOf_5 F f) F.1 85 (nI fr) (nI to) (nI (q + 1)) (nI (mSt.getD q 0)) (nI 0) h := by
      simp (disch := first | exact sR_rfl _ _ rfl | omega) only [q_M_wordOf_5, ft_lit, ft_m1, ft_m2, ft_m3, ft_m5, ft_m6, ft_cl, ft_lt, ft_le, ft_eq, ft_mlt, ft_ltm, ft_mltm, ft_meq, ft_eqm, ft_meqm, ft_add, ft_mul, ft_sub, ft_nm, ft_m1p, ft_and, ft_or, ft_31, ft_shl, ft_shr, ft_bz, ft_z0, ft_z1, ft_z01, ft_bb, ft_zt, ft_zf, ft_or0, ft_rv, ft_rvr, ft_rf, ft_rfn, ft_bI, ft_bJ, ft_bV, ft_bR, ft_bRn, ft_isr, ft_isn, ft_ifn, ft_ifr, ft_ov, ft_ovn, ft_in, k_sI, n_sI, R_sI, J_sI, c_sI, z_sI, k_sJ, n_sJ, R_sJ, I_sJ, c_sJ, z_sJ, k_sR, n_sR, I_sR, J_sR, c_sR, z_sR, k_wI, n_wI, R_wI, J_wI, I_wIe, k_wJ, n_wJ, R_wJ, I_wJ, J_wJe, I_wIn, J_wJn, I_sIe, J_sJe, R_sRe, I_sIn, I_sIk, J_sJn, J_sJk, R_sRn, R_sRk, eq_self, if_true, if_false, ↓reduceIte, cond_true, cond_false, ↓cond_eq_ite, and_true, true_and, and_false, false_and, or_true, true_or, or_false, false_or, not_true_eq_false, not_false_eq_true, ft_ltT, ft_ltF, ft_eqT, ft_eqF, Bool.false_eq_true, Bool.true_eq_false, Bool.not_true, Bool.not_false, Bool.and_true, Bool.true_and, Bool.and_false, Bool.false_and, decide_true, decide_false, Nat.reduceAdd, Nat.reduceMul, Nat.reduceSub, Nat.reduceEqDiff, Nat.reduceLT, Nat.zero_add, Nat.add_zero, Nat.reduceDiv, Nat.reduceMod, e5, sm_k85 S, sm_R85_1 S, ↓sm_v85_1 S, sm_R85_2 S, ↓sm_v85_2 S, sm_R85_3 S, ↓sm_v85_3 S, sm_R85_4 S, ↓sm_v85_4 S, sm_R85_5 S, ↓sm_v85_5 S, sm_R85_7 S, ↓sm_v85_7 S, sm_R85_11 S, ↓sm_v85_11 S, sm_R85_12 S, ↓sm_v85_12 S, sm_R85_15 S, ↓sm_v85_15 S, sm_R85_16 S, ↓sm_v85_16 S, sm_R85_17 S, ↓sm_v85_17 S, sm_R85_26 S, ↓sm_v85_26 S, sm_R85_29 S, ↓sm_v85_29 S, sm_R85_30 S, ↓sm_v85_30 S, sm_R85_32 S, ↓sm_v85_32 S, sm_R85_33 S, ↓sm_v85_33 S, sm_R85_34 S, ↓sm_v85_34 S, sm_R85_35 S, ↓sm_v85_35 S, sm_R85_36 S, ↓sm_v85_36 S, sm_R85_37 S, ↓sm_v85_37 S, sm_R85_38 S, ↓sm_v85_38 S, sm_R85_40 S, ↓sm_v85_40 S, sm_R85_41 S, ↓sm_v85_41 S, sm_R85_48 S, ↓sm_v85_48 S, sm_R85_49 S, ↓sm_v85_49 S, sm_k86 S, sm_n86 S, sm_k87 S, sm_n87 S, sm_k88 S, sm_n88 S, sm_k89 S, sm_n89 S, sm_k90 S, sm_n90 S, sm_k91 S, sm_n91 S, sm_k92 S, sm_n92 S, sm_k93 S, sm_n93 S, sm_k94 S, sm_n94 S, sm_k95 S, sm_n95 S, sm_k96 S, sm_n96 S, sm_k97 S, sm_n97 S, sm_k98 S, sm_n98 S, sm_k99 S, sm_n99 S, sm_k100 S, sm_n100 S, sm_k101 S, sm_n101 S, sm_k102 S, sm_n102 S, sm_k103 S, sm_n103 S, sm_k104 S, sm_n104 S, sm_k105 S, sm_n105 S, sm_k106 S, sm_n106 S, sm_k107 S, sm_n107 S, sm_k108 S, sm_n108 S, sm_k109 S, sm_n109 S, sm_k110 S, sm_n110 S]
    rw [e1, w18]
    unfold wsr
    by_cases w : mMt (tby tp fr to) q = true
    · rw [if_pos w, if_pos w, if_pos (by omega)]
    · rw [if_neg w, if_neg w]
      exact ih
theorem M_wordOf {F : Nat × Nat} (hF : FF F) {h : jH} (S : ShM h) (W : WM h) {tp : Nat → Nat} {fr to : Nat} (ht : to ≤ 400) (hf : fr ≤ to) (hb : ∀ i, fr ≤ i → i < to → j_I h 92 i = nI (tp i) ∧ tp i < 256) : m_M_wordOf F 85 (nI fr) (nI to) h = some (some (.int (nI (mWc (tby tp fr to)))), h) := by
  rw [q_M_wordOf]
  exact M_w5 hF S W ht hf hb 27 0 F.1 rfl (by have := hF.1; omega)
theorem M_wordOf_b {F : Nat × Nat} (hF : FF F) {h : jH} (S : ShM h) (W : WM h) {tp : Nat → Nat} {fr to : Nat} (ht : to ≤ 400) (hf : fr ≤ to) (hb : ∀ i, fr ≤ i → i < to → j_I h 92 i = nI (tp i) ∧ tp i < 256) (ff : Int32 → jH → Option jO) : jbI (m_M_wordOf F 85 (nI fr) (nI to) h) ff = ff ((nI (mWc (tby tp fr to)))) (h) := bI_of (M_wordOf (F := F) (hF := hF) (h := h) (S := S) (W := W) (tp := tp) (fr := fr) (to := to) (ht := ht) (hf := hf) (hb := hb)) ff
/-- the class's table -/
theorem c_tab : ∀ q, q < 27 → cSt.getD q 0 + (cWs.getD q []).length < 137 ∧ jwb.getD (cSt.getD q 0 + (cWs.getD q []).length) 0 = nI 32 ∧ (∀ i, i < (cWs.getD q []).length → jwb.getD (cSt.getD q 0 + i) 0 = nI ((cWs.getD q []).getD i 0) ∧ (cWs.getD q []).getD i 0 ≠ 32 ∧ (cWs.getD q []).getD i 0 < 128) ∧ cSt.getD (q + 1) 0 = cSt.getD q 0 + (cWs.getD q []).length + 1 ∧ (cWs.getD q []).length < 10 ∧ cSt.getD q 0 < 137 := by decide +kernel
theorem c_len : jwb.length = 137 := by decide +kernel
theorem c_st27 : cSt.getD 27 0 = 137 := by decide
theorem C_charAt {F : Nat × Nat} {h : jH} {i : Nat} (hi : i < 137) : m_Js_charAt F 3 (nI i) h = some (some (.int (jwb.getD i 0)), h) := by
  unfold m_Js_charAt
  rw [nI_clamp (by omega), c_len, if_pos ⟨nI_pos (by omega), hi⟩]
theorem C_charAt_b {F : Nat × Nat} {h : jH} {i : Nat} (hi : i < 137) (ff : Int32 → jH → Option jO) : jbI (m_Js_charAt F 3 (nI i) h) ff = ff ((jwb.getD i 0)) (h) := bI_of (C_charAt (F := F) (h := h) (i := i) (hi := hi)) ff
theorem C_len {F : Nat × Nat} {h : jH} : m_Js_length F 3 h = some (some (.int (nI 137)), h) := by
  unfold m_Js_length
  rw [c_len]
  rfl
theorem C_len_b {F : Nat × Nat} {h : jH} (ff : Int32 → jH → Option jO) : jbI (m_Js_length F 3 h) ff = ff ((nI 137)) (h) := bI_of (C_len (F := F) (h := h)) ff
theorem C_stands {F : Nat × Nat} {h : jH} (S : ShF h) {tp : Nat → Nat} {fr to q : Nat} (hq : q < 27) (ht : to ≤ 400) (hf : fr ≤ to) (hb : ∀ i, fr ≤ i → i < to → j_I h 61 i = nI (tp i) ∧ tp i < 256) (hle : to - fr = (cWs.getD q []).length) : ∀ d i f, i + d = to - fr → d < f → (∀ x, x < i → tp (fr + x) = (cWs.getD q []).getD x 0) → m_P_stands_3 F f 60 (nI fr) (nI to) (nI (cSt.getD q 0)) (nI i) h = some (some (.int (nI (ft_z (cMt (tby tp fr to) q)))), h)
  | d, i, 0, e, hf, hs => absurd hf (by omega)
  | 0, i, f + 1, e, _, hs => by
    have hm : cMt (tby tp fr to) q = true := by
      unfold cMt
      rw [beq_iff_eq, tby_eq]
      exact ⟨hle, fun x hx => hs x (by omega)⟩
    rw [hm]
    simp (disch := first | exact sR_rfl _ _ rfl | omega) only [q_P_stands_3, ft_lit, ft_m1, ft_m2, ft_m3, ft_m5, ft_m6, ft_cl, ft_lt, ft_le, ft_eq, ft_mlt, ft_ltm, ft_mltm, ft_meq, ft_eqm, ft_meqm, ft_add, ft_mul, ft_sub, ft_nm, ft_m1p, ft_and, ft_or, ft_31, ft_shl, ft_shr, ft_bz, ft_z0, ft_z1, ft_z01, ft_bb, ft_zt, ft_zf, ft_or0, ft_rv, ft_rvr, ft_rf, ft_rfn, ft_bI, ft_bJ, ft_bV, ft_bR, ft_bRn, ft_isr, ft_isn, ft_ifn, ft_ifr, ft_ov, ft_ovn, ft_in, k_sI, n_sI, R_sI, J_sI, c_sI, z_sI, k_sJ, n_sJ, R_sJ, I_sJ, c_sJ, z_sJ, k_sR, n_sR, I_sR, J_sR, c_sR, z_sR, k_wI, n_wI, R_wI, J_wI, I_wIe, k_wJ, n_wJ, R_wJ, I_wJ, J_wJe, I_wIn, J_wJn, I_sIe, J_sJe, R_sRe, I_sIn, I_sIk, J_sJn, J_sJk, R_sRn, R_sRk, eq_self, if_true, if_false, ↓reduceIte, cond_true, cond_false, ↓cond_eq_ite, and_true, true_and, and_false, false_and, or_true, true_or, or_false, false_or, not_true_eq_false, not_false_eq_true, ft_ltT, ft_ltF, ft_eqT, ft_eqF, Bool.false_eq_true, Bool.true_eq_false, Bool.not_true, Bool.not_false, Bool.and_true, Bool.true_and, Bool.and_false, Bool.false_and, decide_true, decide_false, Nat.reduceAdd, Nat.reduceMul, Nat.reduceSub, Nat.reduceEqDiff, Nat.reduceLT, Nat.zero_add, Nat.add_zero, Nat.reduceDiv, Nat.reduceMod]
  | d + 1, i, f + 1, e, hff, hs => by
    have tb := c_tab q hq
    have h3 := tb.2.2.1 i (by omega)
    have h2 := hb (fr + i) (by omega) (by omega)
    have h5 := h2.2
    have h6 := h2.1
    have h7 := h3.2.2
    have ch := C_charAt (F := F) (h := h) (i := cSt.getD q 0 + i) (by omega)
    rw [h3.1, ← ft_add] at ch
    have ch := bI_of ch
    by_cases w : tp (fr + i) = (cWs.getD q []).getD i 0
    · have ih := C_stands (F := F) S hq ht hf hb hle d (i + 1) f (by omega) (by omega) (fun x hx => by
        rcases Nat.lt_or_ge x i with y | y
        · exact hs x y
        · have : x = i := by omega
          rw [this]; exact w)
      rw [← ih]
      have w' : (cWs.getD q []).getD i 0 = tp (fr + i) := w.symm
      simp (disch := first | exact sR_rfl _ _ rfl | omega) only [q_P_stands_3, ft_lit, ft_m1, ft_m2, ft_m3, ft_m5, ft_m6, ft_cl, ft_lt, ft_le, ft_eq, ft_mlt, ft_ltm, ft_mltm, ft_meq, ft_eqm, ft_meqm, ft_add, ft_mul, ft_sub, ft_nm, ft_m1p, ft_and, ft_or, ft_31, ft_shl, ft_shr, ft_bz, ft_z0, ft_z1, ft_z01, ft_bb, ft_zt, ft_zf, ft_or0, ft_rv, ft_rvr, ft_rf, ft_rfn, ft_bI, ft_bJ, ft_bV, ft_bR, ft_bRn, ft_isr, ft_isn, ft_ifn, ft_ifr, ft_ov, ft_ovn, ft_in, k_sI, n_sI, R_sI, J_sI, c_sI, z_sI, k_sJ, n_sJ, R_sJ, I_sJ, c_sJ, z_sJ, k_sR, n_sR, I_sR, J_sR, c_sR, z_sR, k_wI, n_wI, R_wI, J_wI, I_wIe, k_wJ, n_wJ, R_wJ, I_wJ, J_wJe, I_wIn, J_wJn, I_sIe, J_sJe, R_sRe, I_sIn, I_sIk, J_sJn, J_sJk, R_sRn, R_sRk, eq_self, if_true, if_false, ↓reduceIte, cond_true, cond_false, ↓cond_eq_ite, and_true, true_and, and_false, false_and, or_true, true_or, or_false, false_or, not_true_eq_false, not_false_eq_true, ft_ltT, ft_ltF, ft_eqT, ft_eqF, Bool.false_eq_true, Bool.true_eq_false, Bool.not_true, Bool.not_false, Bool.and_true, Bool.true_and, Bool.and_false, Bool.false_and, decide_true, decide_false, Nat.reduceAdd, Nat.reduceMul, Nat.reduceSub, Nat.reduceEqDiff, Nat.reduceLT, Nat.zero_add, Nat.add_zero, Nat.reduceDiv, Nat.reduceMod, sf_k60 S, sf_R60_0 S, ↓sf_v60_0 S, sf_k61 S, sf_n61 S, ↓ch, h6, w']
    · have hm : cMt (tby tp fr to) q = false := by
        cases hc : cMt (tby tp fr to) q with
        | false => rfl
        | true =>
          unfold cMt at hc
          rw [beq_iff_eq, tby_eq] at hc
          exact absurd (hc.2 i (by omega)) w
      rw [hm]
      have w' : ¬ (cWs.getD q []).getD i 0 = tp (fr + i) := fun z => w z.symm
      simp (disch := first | exact sR_rfl _ _ rfl | omega) only [q_P_stands_3, ft_lit, ft_m1, ft_m2, ft_m3, ft_m5, ft_m6, ft_cl, ft_lt, ft_le, ft_eq, ft_mlt, ft_ltm, ft_mltm, ft_meq, ft_eqm, ft_meqm, ft_add, ft_mul, ft_sub, ft_nm, ft_m1p, ft_and, ft_or, ft_31, ft_shl, ft_shr, ft_bz, ft_z0, ft_z1, ft_z01, ft_bb, ft_zt, ft_zf, ft_or0, ft_rv, ft_rvr, ft_rf, ft_rfn, ft_bI, ft_bJ, ft_bV, ft_bR, ft_bRn, ft_isr, ft_isn, ft_ifn, ft_ifr, ft_ov, ft_ovn, ft_in, k_sI, n_sI, R_sI, J_sI, c_sI, z_sI, k_sJ, n_sJ, R_sJ, I_sJ, c_sJ, z_sJ, k_sR, n_sR, I_sR, J_sR, c_sR, z_sR, k_wI, n_wI, R_wI, J_wI, I_wIe, k_wJ, n_wJ, R_wJ, I_wJ, J_wJe, I_wIn, J_wJn, I_sIe, J_sJe, R_sRe, I_sIn, I_sIk, J_sJn, J_sJk, R_sRn, R_sRk, eq_self, if_true, if_false, ↓reduceIte, cond_true, cond_false, ↓cond_eq_ite, and_true, true_and, and_false, false_and, or_true, true_or, or_false, false_or, not_true_eq_false, not_false_eq_true, ft_ltT, ft_ltF, ft_eqT, ft_eqF, Bool.false_eq_true, Bool.true_eq_false, Bool.not_true, Bool.not_false, Bool.and_true, Bool.true_and, Bool.and_false, Bool.false_and, decide_true, decide_false, Nat.reduceAdd, Nat.reduceMul, Nat.reduceSub, Nat.reduceEqDiff, Nat.reduceLT, Nat.zero_add, Nat.add_zero, Nat.reduceDiv, Nat.reduceMod, sf_k60 S, sf_R60_0 S, ↓sf_v60_0 S, sf_k61 S, sf_n61 S, ↓ch, h6, w']
theorem C_wc10 {F : Nat × Nat} (hF : FF F) {h : jH} (S : ShF h) {tp : Nat → Nat} {fr to : Nat} (ht : to ≤ 400) (hf : fr ≤ to) (hb : ∀ i, fr ≤ i → i < to → j_I h 61 i = nI (tp i) ∧ tp i < 256) : ∀ r q x f, q < 27 → x ≤ (cWs.getD q []).length → cSt.getD q 0 + x + r = 137 → r < f → m_P_wordCode_10 F f 60 (nI fr) (nI to) (nI (300 + q)) (nI (cSt.getD q 0)) (nI (cSt.getD q 0 + x)) h = some (some (.int (nI (if wsr (cMt (tby tp fr to)) (27 - q) q < 27 then 300 + wsr (cMt (tby tp fr to)) (27 - q) q else 400))), h)
  | r, q, x, 0, hq, hx, e, hff => absurd hff (by omega)
  | 0, q, x, f + 1, hq, hx, e, hff => by
    have tb := c_tab q hq
    omega
  | r + 1, q, x, f + 1, hq, hx, e, hff => by
    have tb := c_tab q hq
    have hF1 := hF.1
    have ln := C_len_b (F := F) (h := h)
    have ch := C_charAt (F := F) (h := h) (i := cSt.getD q 0 + x) (by omega)
    by_cases w : x = (cWs.getD q []).length
    · subst w
      rw [tb.2.1] at ch
      have ch := bI_of ch
      -- the next word
      have nx : ∀ g, g = f → m_P_wordCode_10 F g 60 (nI fr) (nI to) (nI (300 + (q + 1))) (nI (cSt.getD q 0 + (cWs.getD q []).length + 1)) (nI (cSt.getD q 0 + (cWs.getD q []).length + 1)) h = some (some (.int (nI (if wsr (cMt (tby tp fr to)) (27 - (q + 1)) (q + 1) < 27 then 300 + wsr (cMt (tby tp fr to)) (27 - (q + 1)) (q + 1) else 400))), h) := by
        intro g hg
        subst hg
        rcases Nat.lt_or_ge (q + 1) 27 with y | y
        · have ih := C_wc10 hF S ht hf hb r (q + 1) 0 g y (Nat.zero_le _) (by rw [tb.2.2.2.1]; omega) (by omega)
          rw [Nat.add_zero, tb.2.2.2.1] at ih
          exact ih
        · have hq26 : q = 26 := by omega
          subst hq26
          have h27 := tb.2.2.2.1
          rw [show 26 + 1 = 27 from rfl, c_st27] at h27
          rw [← h27]
          obtain ⟨g2, rfl⟩ : ∃ g2, g = g2 + 1 := ⟨g - 1, by omega⟩
          simp (disch := first | exact sR_rfl _ _ rfl | omega) only [q_P_wordCode_10, ft_lit, ft_m1, ft_m2, ft_m3, ft_m5, ft_m6, ft_cl, ft_lt, ft_le, ft_eq, ft_mlt, ft_ltm, ft_mltm, ft_meq, ft_eqm, ft_meqm, ft_add, ft_mul, ft_sub, ft_nm, ft_m1p, ft_and, ft_or, ft_31, ft_shl, ft_shr, ft_bz, ft_z0, ft_z1, ft_z01, ft_bb, ft_zt, ft_zf, ft_or0, ft_rv, ft_rvr, ft_rf, ft_rfn, ft_bI, ft_bJ, ft_bV, ft_bR, ft_bRn, ft_isr, ft_isn, ft_ifn, ft_ifr, ft_ov, ft_ovn, ft_in, k_sI, n_sI, R_sI, J_sI, c_sI, z_sI, k_sJ, n_sJ, R_sJ, I_sJ, c_sJ, z_sJ, k_sR, n_sR, I_sR, J_sR, c_sR, z_sR, k_wI, n_wI, R_wI, J_wI, I_wIe, k_wJ, n_wJ, R_wJ, I_wJ, J_wJe, I_wIn, J_wJn, I_sIe, J_sJe, R_sRe, I_sIn, I_sIk, J_sJn, J_sJk, R_sRn, R_sRk, eq_self, if_true, if_false, ↓reduceIte, cond_true, cond_false, ↓cond_eq_ite, and_true, true_and, and_false, false_and, or_true, true_or, or_false, false_or, not_true_eq_false, not_false_eq_true, ft_ltT, ft_ltF, ft_eqT, ft_eqF, Bool.false_eq_true, Bool.true_eq_false, Bool.not_true, Bool.not_false, Bool.and_true, Bool.true_and, Bool.and_false, Bool.false_and, decide_true, decide_false, Nat.reduceAdd, Nat.reduceMul, Nat.reduceSub, Nat.reduceEqDiff, Nat.reduceLT, Nat.zero_add, Nat.add_zero, Nat.reduceDiv, Nat.reduceMod, ↓ln, wsr]
      have hw : wsr (cMt (tby tp fr to)) (27 - q) q = if cMt (tby tp fr to) q then q else wsr (cMt (tby tp fr to)) (27 - (q + 1)) (q + 1) := by
        rw [show 27 - q = (27 - (q + 1)) + 1 by omega]
        rfl
      rw [hw]
      have nx := nx f rfl
      by_cases y : to - fr = (cWs.getD q []).length
      · have sd := C_stands (F := F) S hq ht hf hb y (to - fr) 0 F.1 (by omega) (by omega) (fun x hx => absurd hx (by omega))
        have sd2 : m_P_stands F 60 (nI fr) (nI to) (nI (cSt.getD q 0)) h = some (some (.int (nI (ft_z (cMt (tby tp fr to) q)))), h) := by rw [q_P_stands]; exact sd
        have sd := bI_of sd2
        have hl : cSt.getD q 0 + (cWs.getD q []).length - cSt.getD q 0 = (cWs.getD q []).length := by omega
        cases hm : cMt (tby tp fr to) q with
        | true =>
          rw [hm] at sd
          have e3 : (if true = true then q else wsr (cMt (tby tp fr to)) (27 - (q + 1)) (q + 1)) = q := rfl
          rw [e3, if_pos hq]
          simp (disch := first | exact sR_rfl _ _ rfl | omega) only [q_P_wordCode_10, ft_lit, ft_m1, ft_m2, ft_m3, ft_m5, ft_m6, ft_cl, ft_lt, ft_le, ft_eq, ft_mlt, ft_ltm, ft_mltm, ft_meq, ft_eqm, ft_meqm, ft_add, ft_mul, ft_sub, ft_nm, ft_m1p, ft_and, ft_or, ft_31, ft_shl, ft_shr, ft_bz, ft_z0, ft_z1, ft_z01, ft_bb, ft_zt, ft_zf, ft_or0, ft_rv, ft_rvr, ft_rf, ft_rfn, ft_bI, ft_bJ, ft_bV, ft_bR, ft_bRn, ft_isr, ft_isn, ft_ifn, ft_ifr, ft_ov, ft_ovn, ft_in, k_sI, n_sI, R_sI, J_sI, c_sI, z_sI, k_sJ, n_sJ, R_sJ, I_sJ, c_sJ, z_sJ, k_sR, n_sR, I_sR, J_sR, c_sR, z_sR, k_wI, n_wI, R_wI, J_wI, I_wIe, k_wJ, n_wJ, R_wJ, I_wJ, J_wJe, I_wIn, J_wJn, I_sIe, J_sJe, R_sRe, I_sIn, I_sIk, J_sJn, J_sJk, R_sRn, R_sRk, eq_self, if_true, if_false, ↓reduceIte, cond_true, cond_false, ↓cond_eq_ite, and_true, true_and, and_false, false_and, or_true, true_or, or_false, false_or, not_true_eq_false, not_false_eq_true, ft_ltT, ft_ltF, ft_eqT, ft_eqF, Bool.false_eq_true, Bool.true_eq_false, Bool.not_true, Bool.not_false, Bool.and_true, Bool.true_and, Bool.and_false, Bool.false_and, decide_true, decide_false, Nat.reduceAdd, Nat.reduceMul, Nat.reduceSub, Nat.reduceEqDiff, Nat.reduceLT, Nat.zero_add, Nat.add_zero, Nat.reduceDiv, Nat.reduceMod, ↓ln, ↓ch, hl, y, sf_k60 S, ↓sd]
        | false =>
          rw [hm] at sd
          simp only [Bool.false_eq_true, if_false]
          rw [← nx]
          simp (disch := first | exact sR_rfl _ _ rfl | omega) only [q_P_wordCode_10, ft_lit, ft_m1, ft_m2, ft_m3, ft_m5, ft_m6, ft_cl, ft_lt, ft_le, ft_eq, ft_mlt, ft_ltm, ft_mltm, ft_meq, ft_eqm, ft_meqm, ft_add, ft_mul, ft_sub, ft_nm, ft_m1p, ft_and, ft_or, ft_31, ft_shl, ft_shr, ft_bz, ft_z0, ft_z1, ft_z01, ft_bb, ft_zt, ft_zf, ft_or0, ft_rv, ft_rvr, ft_rf, ft_rfn, ft_bI, ft_bJ, ft_bV, ft_bR, ft_bRn, ft_isr, ft_isn, ft_ifn, ft_ifr, ft_ov, ft_ovn, ft_in, k_sI, n_sI, R_sI, J_sI, c_sI, z_sI, k_sJ, n_sJ, R_sJ, I_sJ, c_sJ, z_sJ, k_sR, n_sR, I_sR, J_sR, c_sR, z_sR, k_wI, n_wI, R_wI, J_wI, I_wIe, k_wJ, n_wJ, R_wJ, I_wJ, J_wJe, I_wIn, J_wJn, I_sIe, J_sJe, R_sRe, I_sIn, I_sIk, J_sJn, J_sJk, R_sRn, R_sRk, eq_self, if_true, if_false, ↓reduceIte, cond_true, cond_false, ↓cond_eq_ite, and_true, true_and, and_false, false_and, or_true, true_or, or_false, false_or, not_true_eq_false, not_false_eq_true, ft_ltT, ft_ltF, ft_eqT, ft_eqF, Bool.false_eq_true, Bool.true_eq_false, Bool.not_true, Bool.not_false, Bool.and_true, Bool.true_and, Bool.and_false, Bool.false_and, decide_true, decide_false, Nat.reduceAdd, Nat.reduceMul, Nat.reduceSub, Nat.reduceEqDiff, Nat.reduceLT, Nat.zero_add, Nat.add_zero, Nat.reduceDiv, Nat.reduceMod, ↓ln, ↓ch, hl, y, sf_k60 S, ↓sd, Nat.add_assoc]
      · have hm : cMt (tby tp fr to) q = false := by
          cases hc : cMt (tby tp fr to) q with
          | false => rfl
          | true =>
            unfold cMt at hc
            rw [beq_iff_eq, tby_eq] at hc
            exact absurd hc.1 y
        have hl : cSt.getD q 0 + (cWs.getD q []).length - cSt.getD q 0 = (cWs.getD q []).length := by omega
        have y' : ¬ (cWs.getD q []).length = to - fr := fun z => y z.symm
        rw [hm]
        simp only [Bool.false_eq_true, if_false]
        rw [← nx]
        simp (disch := first | exact sR_rfl _ _ rfl | omega) only [q_P_wordCode_10, ft_lit, ft_m1, ft_m2, ft_m3, ft_m5, ft_m6, ft_cl, ft_lt, ft_le, ft_eq, ft_mlt, ft_ltm, ft_mltm, ft_meq, ft_eqm, ft_meqm, ft_add, ft_mul, ft_sub, ft_nm, ft_m1p, ft_and, ft_or, ft_31, ft_shl, ft_shr, ft_bz, ft_z0, ft_z1, ft_z01, ft_bb, ft_zt, ft_zf, ft_or0, ft_rv, ft_rvr, ft_rf, ft_rfn, ft_bI, ft_bJ, ft_bV, ft_bR, ft_bRn, ft_isr, ft_isn, ft_ifn, ft_ifr, ft_ov, ft_ovn, ft_in, k_sI, n_sI, R_sI, J_sI, c_sI, z_sI, k_sJ, n_sJ, R_sJ, I_sJ, c_sJ, z_sJ, k_sR, n_sR, I_sR, J_sR, c_sR, z_sR, k_wI, n_wI, R_wI, J_wI, I_wIe, k_wJ, n_wJ, R_wJ, I_wJ, J_wJe, I_wIn, J_wJn, I_sIe, J_sJe, R_sRe, I_sIn, I_sIk, J_sJn, J_sJk, R_sRn, R_sRk, eq_self, if_true, if_false, ↓reduceIte, cond_true, cond_false, ↓cond_eq_ite, and_true, true_and, and_false, false_and, or_true, true_or, or_false, false_or, not_true_eq_false, not_false_eq_true, ft_ltT, ft_ltF, ft_eqT, ft_eqF, Bool.false_eq_true, Bool.true_eq_false, Bool.not_true, Bool.not_false, Bool.and_true, Bool.true_and, Bool.and_false, Bool.false_and, decide_true, decide_false, Nat.reduceAdd, Nat.reduceMul, Nat.reduceSub, Nat.reduceEqDiff, Nat.reduceLT, Nat.zero_add, Nat.add_zero, Nat.reduceDiv, Nat.reduceMod, ↓ln, ↓ch, hl, y', Nat.add_assoc]
    · have h3 := tb.2.2.1 x (by omega)
      rw [h3.1] at ch
      have ch := bI_of ch
      have h7 := h3.2.2
      have h8 := h3.2.1
      have ih := C_wc10 hF S ht hf hb r q (x + 1) f hq (by omega) (by omega) (by omega)
      rw [← ih]
      simp (disch := first | exact sR_rfl _ _ rfl | omega) only [q_P_wordCode_10, ft_lit, ft_m1, ft_m2, ft_m3, ft_m5, ft_m6, ft_cl, ft_lt, ft_le, ft_eq, ft_mlt, ft_ltm, ft_mltm, ft_meq, ft_eqm, ft_meqm, ft_add, ft_mul, ft_sub, ft_nm, ft_m1p, ft_and, ft_or, ft_31, ft_shl, ft_shr, ft_bz, ft_z0, ft_z1, ft_z01, ft_bb, ft_zt, ft_zf, ft_or0, ft_rv, ft_rvr, ft_rf, ft_rfn, ft_bI, ft_bJ, ft_bV, ft_bR, ft_bRn, ft_isr, ft_isn, ft_ifn, ft_ifr, ft_ov, ft_ovn, ft_in, k_sI, n_sI, R_sI, J_sI, c_sI, z_sI, k_sJ, n_sJ, R_sJ, I_sJ, c_sJ, z_sJ, k_sR, n_sR, I_sR, J_sR, c_sR, z_sR, k_wI, n_wI, R_wI, J_wI, I_wIe, k_wJ, n_wJ, R_wJ, I_wJ, J_wJe, I_wIn, J_wJn, I_sIe, J_sJe, R_sRe, I_sIn, I_sIk, J_sJn, J_sJk, R_sRn, R_sRk, eq_self, if_true, if_false, ↓reduceIte, cond_true, cond_false, ↓cond_eq_ite, and_true, true_and, and_false, false_and, or_true, true_or, or_false, false_or, not_true_eq_false, not_false_eq_true, ft_ltT, ft_ltF, ft_eqT, ft_eqF, Bool.false_eq_true, Bool.true_eq_false, Bool.not_true, Bool.not_false, Bool.and_true, Bool.true_and, Bool.and_false, Bool.false_and, decide_true, decide_false, Nat.reduceAdd, Nat.reduceMul, Nat.reduceSub, Nat.reduceEqDiff, Nat.reduceLT, Nat.zero_add, Nat.add_zero, Nat.reduceDiv, Nat.reduceMod, ↓ln, ↓ch, h8, Nat.add_assoc]
theorem C_wordCode {F : Nat × Nat} (hF : FF F) {h : jH} (S : ShF h) {tp : Nat → Nat} {fr to : Nat} (ht : to ≤ 400) (hf : fr ≤ to) (hb : ∀ i, fr ≤ i → i < to → j_I h 61 i = nI (tp i) ∧ tp i < 256) : m_P_wordCode F 60 (nI fr) (nI to) h = some (some (.int (nI (gC (mWc (tby tp fr to))))), h) := by
  rw [q_P_wordCode, wc_eq]
  have := C_wc10 hF S ht hf hb 137 0 0 F.1 (by omega) (Nat.zero_le _) (by decide) (by have := hF.1; omega)
  exact this
theorem C_wordCode_b {F : Nat × Nat} (hF : FF F) {h : jH} (S : ShF h) {tp : Nat → Nat} {fr to : Nat} (ht : to ≤ 400) (hf : fr ≤ to) (hb : ∀ i, fr ≤ i → i < to → j_I h 61 i = nI (tp i) ∧ tp i < 256) (ff : Int32 → jH → Option jO) : jbI (m_P_wordCode F 60 (nI fr) (nI to) h) ff = ff ((nI (gC (mWc (tby tp fr to))))) (h) := bI_of (C_wordCode (F := F) (hF := hF) (h := h) (S := S) (tp := tp) (fr := fr) (to := to) (ht := ht) (hf := hf) (hb := hb)) ff
